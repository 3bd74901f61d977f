/-! ===== the model: leaves ===== -/
/-- the model's own row holds N -/
def xMN (N : Nat → Nat) (I : Nat → Nat → Int32) : Prop := ∀ k, k < 159 → I 61 k = nI (N k)
theorem xg_lt (x y : Int64) : lg_cmp x y < 0 ↔ x.toInt < y.toInt := by
  unfold lg_cmp
  by_cases h1 : y < x
  · rw [if_pos h1]
    have := Int64.lt_iff_toInt_lt.mp h1
    exact ⟨fun q => absurd q (by decide), fun q => by omega⟩
  · rw [if_neg h1]
    by_cases h2 : x = y
    · rw [if_pos h2, h2]
      exact ⟨fun q => absurd q (by decide), fun q => by omega⟩
    · rw [if_neg h2]
      have h3 : ¬ y.toInt < x.toInt := fun q => h1 (Int64.lt_iff_toInt_lt.mpr q)
      have h4 : ¬ x.toInt = y.toInt := fun q => h2 (Int64.toInt_inj.mp q)
      exact ⟨fun _ => by omega, fun _ => by decide⟩
theorem xg_gt (x y : Int64) : 0 < lg_cmp x y ↔ y.toInt < x.toInt := by
  unfold lg_cmp
  by_cases h1 : y < x
  · rw [if_pos h1]
    exact ⟨fun _ => Int64.lt_iff_toInt_lt.mp h1, fun _ => by decide⟩
  · rw [if_neg h1]
    have h3 : ¬ y.toInt < x.toInt := fun q => h1 (Int64.lt_iff_toInt_lt.mpr q)
    by_cases h2 : x = y
    · rw [if_pos h2]
      exact ⟨fun q => absurd q (by decide), fun q => absurd q h3⟩
    · rw [if_neg h2]
      exact ⟨fun q => absurd q (by decide), fun q => absurd q h3⟩
theorem m_in {d : Nat} {S : List (Nat × Nat)} {I : Nat → Nat → Int32} {L : Nat → Nat → Int64} {P : Nat → Nat → Option Nat} {x y z : Int64} : xm_Z (d + 1) 108 [.long x, .long y, .long z] (S, I, L, P) (fun rz hz => rz = some (.int (nI (xB (decide (y.toInt ≤ x.toInt ∧ x.toInt ≤ z.toInt))))) ∧ hz = (S, I, L, P)) := by
  refine xw_S xb_108 (l := [.long x, .float 0, .long y, .float 0, .long z, .float 0]) (Nat.le_of_ble_eq_true rfl) rfl ?_
  refine xw_go xb_108 4 (f1 := (if (lg_cmp x y) < 0 then 17 else 6, [.long x, .float 0, .long y, .float 0, .long z, .float 0], [])) (h1 := (S, I, L, P)) rfl trivial ?_
  refine xw_if (fun c_3 => ?_) (fun c_3 => ?_)
  · skip
    refine xw_go xb_108 1 (f1 := (18, [.long x, .float 0, .long y, .float 0, .long z, .float 0], [.int 0])) (h1 := (S, I, L, P)) rfl trivial ?_
    refine xw_ret xb_108 rfl rfl ?_ ?_
    · first | exact Or.inl rfl | exact Or.inr rfl
    refine ⟨xm_some (congrArg Value.int ?_), rfl⟩
    simp only [xg_lt, xg_gt] at c_3
    first | (rw [show decide (y.toInt ≤ x.toInt ∧ x.toInt ≤ z.toInt) = true from decide_eq_true (by omega)]; rfl) | (rw [show decide (y.toInt ≤ x.toInt ∧ x.toInt ≤ z.toInt) = false from decide_eq_false (by omega)]; rfl)
  · skip
    refine xw_go xb_108 4 (f1 := (if 0 < (lg_cmp x z) then 17 else 13, [.long x, .float 0, .long y, .float 0, .long z, .float 0], [])) (h1 := (S, I, L, P)) rfl trivial ?_
    refine xw_if (fun c_10 => ?_) (fun c_10 => ?_)
    · skip
      refine xw_go xb_108 1 (f1 := (18, [.long x, .float 0, .long y, .float 0, .long z, .float 0], [.int 0])) (h1 := (S, I, L, P)) rfl trivial ?_
      refine xw_ret xb_108 rfl rfl ?_ ?_
      · first | exact Or.inl rfl | exact Or.inr rfl
      refine ⟨xm_some (congrArg Value.int ?_), rfl⟩
      simp only [xg_lt, xg_gt] at c_3 c_10
      first | (rw [show decide (y.toInt ≤ x.toInt ∧ x.toInt ≤ z.toInt) = true from decide_eq_true (by omega)]; rfl) | (rw [show decide (y.toInt ≤ x.toInt ∧ x.toInt ≤ z.toInt) = false from decide_eq_false (by omega)]; rfl)
    · skip
      refine xw_go xb_108 2 (f1 := (18, [.long x, .float 0, .long y, .float 0, .long z, .float 0], [.int 1])) (h1 := (S, I, L, P)) rfl trivial ?_
      refine xw_ret xb_108 rfl rfl ?_ ?_
      · first | exact Or.inl rfl | exact Or.inr rfl
      refine ⟨xm_some (congrArg Value.int ?_), rfl⟩
      simp only [xg_lt, xg_gt] at c_3 c_10
      first | (rw [show decide (y.toInt ≤ x.toInt ∧ x.toInt ≤ z.toInt) = true from decide_eq_true (by omega)]; rfl) | (rw [show decide (y.toInt ≤ x.toInt ∧ x.toInt ≤ z.toInt) = false from decide_eq_false (by omega)]; rfl)

theorem xd_lt {a b n : Nat} (ha : a < n) (hb : b < n) : xd a b < n := by unfold xd; omega
theorem m_cells {d : Nat} {b : Bool} {I : Nat → Nat → Int32} {L : Nat → Nat → Int64} {N : Nat → Nat} (hM : xMN N I)  : xm_Z (d + 1) 112 [.ref 60] (xS b, I, L, xP b) (fun rz hz => rz = some (.int (nI (N 0 * N 1))) ∧ hz = (xS b, I, L, xP b)) := by
  refine xw_S xb_112 (l := [.ref 60]) (Nat.le_of_ble_eq_true rfl) rfl ?_
  refine xw_go xb_112 9 (f1 := (13, [.ref 60], [.int ((I 61 (0 : Int32).toNatClampNeg) * (I 61 (1 : Int32).toNatClampNeg))])) (h1 := (xS b, I, L, xP b)) rfl ⟨rfl, (xn_ar (n := 0) (N := 159) rfl (by decide) (by decide)), rfl, (xn_ar (n := 1) (N := 159) rfl (by decide) (by decide)), trivial⟩ ?_
  refine xw_ret xb_112 rfl rfl trivial ?_
  refine ⟨xm_some (congrArg Value.int ?_), rfl⟩
  rw [show (0 : Int32).toNatClampNeg = 0 from rfl, show (1 : Int32).toNatClampNeg = 1 from rfl, hM 0 (by decide), hM 1 (by decide), pk_mul]

theorem m_told {d : Nat} {b : Bool} {I : Nat → Nat → Int32} {L : Nat → Nat → Int64} {N : Nat → Nat} (hM : xMN N I) {p w : Nat} (bp : p < 5) (bw : w < 4) {x1 : Int32} (e_x1 : x1 = nI p) {x2 : Int32} (e_x2 : x2 = nI w) : xm_Z (d + 1) 117 [.ref 60, .int x1, .int x2] (xS b, I, L, xP b) (fun rz hz => rz = some (.int (nI (N (11 + 4 * p + w)))) ∧ hz = (xS b, I, L, xP b)) := by
  subst e_x1
  subst e_x2
  refine xw_S xb_117 (l := [.ref 60, .int (nI p), .int (nI w)]) (Nat.le_of_ble_eq_true rfl) rfl ?_
  refine xw_go xb_117 10 (f1 := (13, [.ref 60, .int (nI p), .int (nI w)], [.int (I 61 ((11 + (4 * (nI p))) + (nI w)).toNatClampNeg)])) (h1 := (xS b, I, L, xP b)) rfl ⟨rfl, (by show xm_ar _ 61 0 (11 + 4 * nI p + nI w); rw [xl_11, xl_4, pk_mul, nI_add, nI_add]; exact xn_ar (N := 159) rfl (by omega) (by decide)), trivial⟩ ?_
  refine xw_ret xb_117 rfl rfl trivial ?_
  refine ⟨xm_some (congrArg Value.int ?_), rfl⟩
  rw [xl_11, xl_4, pk_mul, nI_add, nI_add, xn_cl (by omega), hM _ (by omega)]

theorem m_apart {d : Nat} {S : List (Nat × Nat)} {I : Nat → Nat → Int32} {L : Nat → Nat → Int64} {P : Nat → Nat → Option Nat} {u v : Nat} (bu : u < 2 ^ 30) (bv : v < 2 ^ 30) {x1 : Int32} (e_x1 : x1 = nI u - nI v) : xm_Z (d + 1) 119 [.int x1, .int 0] (S, I, L, P) (fun rz hz => rz = some (.int (nI (xd u v))) ∧ hz = (S, I, L, P)) := by
  subst e_x1
  refine xw_S xb_119 (l := [.int (nI u - nI v), .int 0]) (Nat.le_of_ble_eq_true rfl) rfl ?_
  refine xw_go xb_119 3 (f1 := (if 0 ≤ (nI u - nI v) then 11 else 5, [.int (nI u - nI v), .int 0], [])) (h1 := (S, I, L, P)) rfl trivial ?_
  refine xw_if (fun c_2 => ?_) (fun c_2 => ?_)
  · skip
    refine xw_go xb_119 3 (f1 := (14, [.int (nI u - nI v), .int 0], [.int ((nI u - nI v) - 0)])) (h1 := (S, I, L, P)) rfl trivial ?_
    refine xw_ret xb_119 rfl rfl trivial ?_
    refine ⟨xm_some (congrArg Value.int ?_), rfl⟩
    have q := xt_nneg bu bv
    unfold xd
    by_cases h : v ≤ u
    · first | exact absurd (q.mpr h) c_2 | (rw [Int32.sub_zero, xn_sub h]; congr 1; omega)
    · first | exact absurd (q.mp c_2) h | (rw [Int32.zero_sub, Int32.neg_sub, xn_sub (by omega)]; congr 1; omega)
  · skip
    refine xw_go xb_119 4 (f1 := (14, [.int (nI u - nI v), .int 0], [.int (0 - (nI u - nI v))])) (h1 := (S, I, L, P)) rfl trivial ?_
    refine xw_ret xb_119 rfl rfl trivial ?_
    refine ⟨xm_some (congrArg Value.int ?_), rfl⟩
    have q := xt_nneg bu bv
    unfold xd
    by_cases h : v ≤ u
    · first | exact absurd (q.mpr h) c_2 | (rw [Int32.sub_zero, xn_sub h]; congr 1; omega)
    · first | exact absurd (q.mp c_2) h | (rw [Int32.zero_sub, Int32.neg_sub, xn_sub (by omega)]; congr 1; omega)

theorem m_most {d : Nat} {S : List (Nat × Nat)} {I : Nat → Nat → Int32} {L : Nat → Nat → Int64} {P : Nat → Nat → Option Nat} {u v : Nat} (bu : u < 2 ^ 31) (bv : v < 2 ^ 31) {x1 : Int32} (e_x1 : x1 = nI u) {x2 : Int32} (e_x2 : x2 = nI v) : xm_Z (d + 1) 120 [.int x1, .int x2] (S, I, L, P) (fun rz hz => rz = some (.int (nI (max u v))) ∧ hz = (S, I, L, P)) := by
  subst e_x1
  subst e_x2
  refine xw_S xb_120 (l := [.int (nI u), .int (nI v)]) (Nat.le_of_ble_eq_true rfl) rfl ?_
  refine xw_go xb_120 3 (f1 := (if (nI u) ≤ (nI v) then 9 else 5, [.int (nI u), .int (nI v)], [])) (h1 := (S, I, L, P)) rfl trivial ?_
  refine xw_if (fun c_2 => ?_) (fun c_2 => ?_)
  · skip
    refine xw_go xb_120 1 (f1 := (10, [.int (nI u), .int (nI v)], [.int (nI v)])) (h1 := (S, I, L, P)) rfl trivial ?_
    refine xw_ret xb_120 rfl rfl trivial ?_
    refine ⟨xm_some (congrArg Value.int ?_), rfl⟩
    simp (disch := omega) only [nI_leI] at c_2
    congr 1
    omega
  · skip
    refine xw_go xb_120 2 (f1 := (10, [.int (nI u), .int (nI v)], [.int (nI u)])) (h1 := (S, I, L, P)) rfl trivial ?_
    refine xw_ret xb_120 rfl rfl trivial ?_
    refine ⟨xm_some (congrArg Value.int ?_), rfl⟩
    simp (disch := omega) only [nI_leI] at c_2
    congr 1
    omega

theorem m_most0 {d : Nat} {S : List (Nat × Nat)} {I : Nat → Nat → Int32} {L : Nat → Nat → Int64} {P : Nat → Nat → Option Nat} {u v : Nat} (bu : u < 2 ^ 30) (bv : v < 2 ^ 30) {x1 : Int32} (e_x1 : x1 = nI u - nI v) : xm_Z (d + 1) 120 [.int x1, .int 0] (S, I, L, P) (fun rz hz => rz = some (.int (nI (u - v))) ∧ hz = (S, I, L, P)) := by
  subst e_x1
  refine xw_S xb_120 (l := [.int (nI u - nI v), .int 0]) (Nat.le_of_ble_eq_true rfl) rfl ?_
  refine xw_go xb_120 3 (f1 := (if (nI u - nI v) ≤ 0 then 9 else 5, [.int (nI u - nI v), .int 0], [])) (h1 := (S, I, L, P)) rfl trivial ?_
  refine xw_if (fun c_2 => ?_) (fun c_2 => ?_)
  · skip
    refine xw_go xb_120 1 (f1 := (10, [.int (nI u - nI v), .int 0], [.int 0])) (h1 := (S, I, L, P)) rfl trivial ?_
    refine xw_ret xb_120 rfl rfl trivial ?_
    refine ⟨xm_some (congrArg Value.int ?_), rfl⟩
    rw [xt_le, xt_sub bu bv, Int32.toInt_zero] at c_2
    first | (rw [xn_sub (by omega)]; done) | (rw [show u - v = 0 by omega]; rfl)
  · skip
    refine xw_go xb_120 2 (f1 := (10, [.int (nI u - nI v), .int 0], [.int (nI u - nI v)])) (h1 := (S, I, L, P)) rfl trivial ?_
    refine xw_ret xb_120 rfl rfl trivial ?_
    refine ⟨xm_some (congrArg Value.int ?_), rfl⟩
    rw [xt_le, xt_sub bu bv, Int32.toInt_zero] at c_2
    first | (rw [xn_sub (by omega)]; done) | (rw [show u - v = 0 by omega]; rfl)

theorem m_takes {d : Nat} {b : Bool} {I : Nat → Nat → Int32} {L : Nat → Nat → Int64} {N : Nat → Nat} (hM : xMN N I) {c w : Nat} (bc : c < 64) (bs : N (31 + c) < 3) (bw : w < 2 ^ 31) {x1 : Int32} (e_x1 : x1 = nI c) {x2 : Int32} (e_x2 : x2 = nI w) : xm_Z (d + 1) 124 [.ref 60, .int x1, .int x2] (xS b, I, L, xP b) (fun rz hz => rz = some (.int (nI (xs_tk (N (31 + c)) w))) ∧ hz = (xS b, I, L, xP b)) := by
  subst e_x1
  subst e_x2
  refine xw_S xb_124 (l := [.ref 60, .int (nI c), .int (nI w), .float 0, .float 0]) (Nat.le_of_ble_eq_true rfl) rfl ?_
  refine xw_go xb_124 7 (f1 := (10, [.ref 60, .int (nI c), .int (nI w), .int (I 61 (31 + (nI c)).toNatClampNeg), .float 0], [])) (h1 := (xS b, I, L, xP b)) rfl ⟨rfl, (by show xm_ar _ 61 0 (31 + nI c); rw [xl_31, nI_add]; exact xn_ar (N := 159) rfl (by omega) (by decide)), trivial⟩ ?_
  refine xw_at (f' := (10, [.ref 60, .int (nI c), .int (nI w), .int (nI (N (31 + c))), .float 0], [])) (h' := (xS b, I, L, xP b)) (congrArg (fun l => (10, l, [])) (show ([.ref 60, .int (nI c), .int (nI w), .int (I 61 (31 + (nI c)).toNatClampNeg), .float 0] : List Value) = [.ref 60, .int (nI c), .int (nI w), .int (nI (N (31 + c))), .float 0] from ?_)) rfl ?_
  · rw [xl_31, nI_add, xn_cl (by omega), hM _ (by omega)]
  refine xw_go xb_124 2 (f1 := (if ¬ (nI (N (31 + c))) = 0 then 18 else 14, [.ref 60, .int (nI c), .int (nI w), .int (nI (N (31 + c))), .float 0], [])) (h1 := (xS b, I, L, xP b)) rfl trivial ?_
  refine xw_if (fun c_11 => ?_) (fun c_11 => ?_)
  · skip
    refine xw_go xb_124 3 (f1 := (if ¬ (nI (N (31 + c))) = 1 then 27 else 23, [.ref 60, .int (nI c), .int (nI w), .int (nI (N (31 + c))), .float 0], [])) (h1 := (xS b, I, L, xP b)) rfl trivial ?_
    refine xw_if (fun c_20 => ?_) (fun c_20 => ?_)
    · skip
      refine xw_go xb_124 5 (f1 := (if 1 ≤ (nI w) then 40 else 36, [.ref 60, .int (nI c), .int (nI w), .int (nI (N (31 + c))), .int 1], [])) (h1 := (xS b, I, L, xP b)) rfl trivial ?_
      refine xw_if (fun c_33 => ?_) (fun c_33 => ?_)
      · skip
        refine xw_go xb_124 1 (f1 := (42, [.ref 60, .int (nI c), .int (nI w), .int (nI (N (31 + c))), .int 1], [.int 1])) (h1 := (xS b, I, L, xP b)) rfl trivial ?_
        refine xw_ret xb_124 rfl rfl trivial ?_
        refine ⟨xm_some (congrArg Value.int ?_), rfl⟩
        simp (disch := omega) only [xl_0, xl_1, xl_5, nI_leI, nI_ltI, nI_eq] at c_11 c_20 c_33
        unfold xs_tk
        try rw [xl_5]
        try rw [xl_1]
        congr 1
        (repeat' split) <;> omega
      · skip
        refine xw_go xb_124 2 (f1 := (42, [.ref 60, .int (nI c), .int (nI w), .int (nI (N (31 + c))), .int 1], [.int (nI w)])) (h1 := (xS b, I, L, xP b)) rfl trivial ?_
        refine xw_ret xb_124 rfl rfl trivial ?_
        refine ⟨xm_some (congrArg Value.int ?_), rfl⟩
        simp (disch := omega) only [xl_0, xl_1, xl_5, nI_leI, nI_ltI, nI_eq] at c_11 c_20 c_33
        unfold xs_tk
        try rw [xl_5]
        try rw [xl_1]
        congr 1
        (repeat' split) <;> omega
    · skip
      refine xw_go xb_124 6 (f1 := (if 5 ≤ (nI w) then 40 else 36, [.ref 60, .int (nI c), .int (nI w), .int (nI (N (31 + c))), .int 5], [])) (h1 := (xS b, I, L, xP b)) rfl trivial ?_
      refine xw_if (fun c_33 => ?_) (fun c_33 => ?_)
      · skip
        refine xw_go xb_124 1 (f1 := (42, [.ref 60, .int (nI c), .int (nI w), .int (nI (N (31 + c))), .int 5], [.int 5])) (h1 := (xS b, I, L, xP b)) rfl trivial ?_
        refine xw_ret xb_124 rfl rfl trivial ?_
        refine ⟨xm_some (congrArg Value.int ?_), rfl⟩
        simp (disch := omega) only [xl_0, xl_1, xl_5, nI_leI, nI_ltI, nI_eq] at c_11 c_20 c_33
        unfold xs_tk
        try rw [xl_5]
        try rw [xl_1]
        congr 1
        (repeat' split) <;> omega
      · skip
        refine xw_go xb_124 2 (f1 := (42, [.ref 60, .int (nI c), .int (nI w), .int (nI (N (31 + c))), .int 5], [.int (nI w)])) (h1 := (xS b, I, L, xP b)) rfl trivial ?_
        refine xw_ret xb_124 rfl rfl trivial ?_
        refine ⟨xm_some (congrArg Value.int ?_), rfl⟩
        simp (disch := omega) only [xl_0, xl_1, xl_5, nI_leI, nI_ltI, nI_eq] at c_11 c_20 c_33
        unfold xs_tk
        try rw [xl_5]
        try rw [xl_1]
        congr 1
        (repeat' split) <;> omega
  · skip
    refine xw_go xb_124 6 (f1 := (if (nI w) ≤ (nI w) then 40 else 36, [.ref 60, .int (nI c), .int (nI w), .int (nI (N (31 + c))), .int (nI w)], [])) (h1 := (xS b, I, L, xP b)) rfl trivial ?_
    refine xw_if (fun c_33 => ?_) (fun c_33 => ?_)
    · skip
      refine xw_go xb_124 1 (f1 := (42, [.ref 60, .int (nI c), .int (nI w), .int (nI (N (31 + c))), .int (nI w)], [.int (nI w)])) (h1 := (xS b, I, L, xP b)) rfl trivial ?_
      refine xw_ret xb_124 rfl rfl trivial ?_
      refine ⟨xm_some (congrArg Value.int ?_), rfl⟩
      simp (disch := omega) only [xl_0, xl_1, xl_5, nI_leI, nI_ltI, nI_eq] at c_11 c_33
      unfold xs_tk
      try rw [xl_5]
      try rw [xl_1]
      congr 1
      (repeat' split) <;> omega
    · skip
      refine xw_go xb_124 2 (f1 := (42, [.ref 60, .int (nI c), .int (nI w), .int (nI (N (31 + c))), .int (nI w)], [.int (nI w)])) (h1 := (xS b, I, L, xP b)) rfl trivial ?_
      refine xw_ret xb_124 rfl rfl trivial ?_
      refine ⟨xm_some (congrArg Value.int ?_), rfl⟩
      simp (disch := omega) only [xl_0, xl_1, xl_5, nI_leI, nI_ltI, nI_eq] at c_11 c_33
      unfold xs_tk
      try rw [xl_5]
      try rw [xl_1]
      congr 1
      (repeat' split) <;> omega

set_option maxHeartbeats 4000000 in
theorem m_throwsOn {d : Nat} {b : Bool} {I : Nat → Nat → Int32} {L : Nat → Nat → Int64} {N : Nat → Nat} (hM : xMN N I) (hO : xOK N) {p c : Nat} (bp : p < N 2) (bc : c < xce N) {x1 : Int32} (e_x1 : x1 = nI p) {x2 : Int32} (e_x2 : x2 = nI c) : xm_Z (d + 2) 118 [.ref 60, .int x1, .int x2] (xS b, I, L, xP b) (fun rz hz => rz = some (.int (nI (xth N p (c / N 1) (c % N 1)))) ∧ hz = (xS b, I, L, xP b)) := by
  subst e_x1
  subst e_x2
  have hb := hO.1
  have h1 := hO.2.2.2 p bp
  have c64 : N 0 * N 1 ≤ 64 := xce_le hO
  have hc64 : c < N 0 * N 1 := bc
  have hN1 : 0 < N 1 := by omega
  have q1 : c / N 1 < N 0 := (Nat.div_lt_iff_lt_mul hN1).mpr bc
  have q2 : N (12 + 4 * p) / N 1 < N 0 := (Nat.div_lt_iff_lt_mul hN1).mpr h1.2.1
  have q3 := Nat.mod_lt c hN1
  have q4 := Nat.mod_lt (N (12 + 4 * p)) hN1
  refine xw_S xb_118 (l := [.ref 60, .int (nI p), .int (nI c), .float 0, .float 0, .float 0, .float 0, .float 0]) (Nat.le_of_ble_eq_true rfl) rfl ?_
  refine xw_go xb_118 3 (f1 := (3, [.ref 60, .int (nI p), .int (nI c), .float 0, .float 0, .float 0, .float 0, .float 0], [.int 1, .int (nI p), .ref 60])) (h1 := (xS b, I, L, xP b)) rfl trivial ?_
  refine xw_call xb_118 rfl rfl rfl rfl rfl (Or.inr ⟨_, _, rfl, rfl⟩) (m_told hM (p := p) (w := 1) (by omega) (by decide) rfl rfl) ?_
  rintro _ _ ⟨rfl, rfl⟩
  refine xw_at (f' := (6, [.ref 60, .int (nI p), .int (nI c), .float 0, .float 0, .float 0, .float 0, .float 0], [.int (nI (N (11 + 4 * p + 1)))])) (h' := (xS b, I, L, xP b)) rfl rfl ?_
  refine xw_go xb_118 1 (f1 := (7, [.ref 60, .int (nI p), .int (nI c), .int (nI (N (11 + 4 * p + 1))), .float 0, .float 0, .float 0, .float 0], [])) (h1 := (xS b, I, L, xP b)) rfl trivial ?_
  refine xw_at (f' := (7, [.ref 60, .int (nI p), .int (nI c), .int (nI (N (12 + 4 * p))), .float 0, .float 0, .float 0, .float 0], [])) (h' := (xS b, I, L, xP b)) (congrArg (fun l => (7, l, [])) (show ([.ref 60, .int (nI p), .int (nI c), .int (nI (N (11 + 4 * p + 1))), .float 0, .float 0, .float 0, .float 0] : List Value) = [.ref 60, .int (nI p), .int (nI c), .int (nI (N (12 + 4 * p))), .float 0, .float 0, .float 0, .float 0] from ?_)) rfl ?_
  · rw [show 11 + 4 * p + 1 = 12 + 4 * p by omega]
  refine xw_go xb_118 14 (f1 := (26, [.ref 60, .int (nI p), .int (nI c), .int (nI (N (12 + 4 * p))), .int (((nI c) / (I 61 (1 : Int32).toNatClampNeg)) - ((nI (N (12 + 4 * p))) / (I 61 (1 : Int32).toNatClampNeg))), .float 0, .float 0, .float 0], [])) (h1 := (xS b, I, L, xP b)) rfl ⟨rfl, (xn_ar (n := 1) (N := 159) rfl (by decide) (by decide)), (by show ¬ I 61 (1 : Int32).toNatClampNeg = 0; rw [show (1 : Int32).toNatClampNeg = 1 from rfl, hM 1 (by decide)]; exact xn_ne (by omega) (by omega)), rfl, (xn_ar (n := 1) (N := 159) rfl (by decide) (by decide)), (by show ¬ I 61 (1 : Int32).toNatClampNeg = 0; rw [show (1 : Int32).toNatClampNeg = 1 from rfl, hM 1 (by decide)]; exact xn_ne (by omega) (by omega)), trivial⟩ ?_
  refine xw_at (f' := (26, [.ref 60, .int (nI p), .int (nI c), .int (nI (N (12 + 4 * p))), .int (nI (c / N 1) - nI (N (12 + 4 * p) / N 1)), .float 0, .float 0, .float 0], [])) (h' := (xS b, I, L, xP b)) (congrArg (fun l => (26, l, [])) (show ([.ref 60, .int (nI p), .int (nI c), .int (nI (N (12 + 4 * p))), .int (((nI c) / (I 61 (1 : Int32).toNatClampNeg)) - ((nI (N (12 + 4 * p))) / (I 61 (1 : Int32).toNatClampNeg))), .float 0, .float 0, .float 0] : List Value) = [.ref 60, .int (nI p), .int (nI c), .int (nI (N (12 + 4 * p))), .int (nI (c / N 1) - nI (N (12 + 4 * p) / N 1)), .float 0, .float 0, .float 0] from ?_)) rfl ?_
  · rw [show (1 : Int32).toNatClampNeg = 1 from rfl, hM 1 (by decide), xn_div (by omega) (by omega) (by omega), xn_div (by omega) (by omega) (by omega)]
  refine xw_go xb_118 14 (f1 := (45, [.ref 60, .int (nI p), .int (nI c), .int (nI (N (12 + 4 * p))), .int (nI (c / N 1) - nI (N (12 + 4 * p) / N 1)), .int (((nI c) - (nI c) / (I 61 (1 : Int32).toNatClampNeg) * (I 61 (1 : Int32).toNatClampNeg)) - ((nI (N (12 + 4 * p))) - (nI (N (12 + 4 * p))) / (I 61 (1 : Int32).toNatClampNeg) * (I 61 (1 : Int32).toNatClampNeg))), .float 0, .float 0], [])) (h1 := (xS b, I, L, xP b)) rfl ⟨rfl, (xn_ar (n := 1) (N := 159) rfl (by decide) (by decide)), (by show ¬ I 61 (1 : Int32).toNatClampNeg = 0; rw [show (1 : Int32).toNatClampNeg = 1 from rfl, hM 1 (by decide)]; exact xn_ne (by omega) (by omega)), rfl, (xn_ar (n := 1) (N := 159) rfl (by decide) (by decide)), (by show ¬ I 61 (1 : Int32).toNatClampNeg = 0; rw [show (1 : Int32).toNatClampNeg = 1 from rfl, hM 1 (by decide)]; exact xn_ne (by omega) (by omega)), trivial⟩ ?_
  refine xw_at (f' := (45, [.ref 60, .int (nI p), .int (nI c), .int (nI (N (12 + 4 * p))), .int (nI (c / N 1) - nI (N (12 + 4 * p) / N 1)), .int (nI (c % N 1) - nI (N (12 + 4 * p) % N 1)), .float 0, .float 0], [])) (h' := (xS b, I, L, xP b)) (congrArg (fun l => (45, l, [])) (show ([.ref 60, .int (nI p), .int (nI c), .int (nI (N (12 + 4 * p))), .int (nI (c / N 1) - nI (N (12 + 4 * p) / N 1)), .int (((nI c) - (nI c) / (I 61 (1 : Int32).toNatClampNeg) * (I 61 (1 : Int32).toNatClampNeg)) - ((nI (N (12 + 4 * p))) - (nI (N (12 + 4 * p))) / (I 61 (1 : Int32).toNatClampNeg) * (I 61 (1 : Int32).toNatClampNeg))), .float 0, .float 0] : List Value) = [.ref 60, .int (nI p), .int (nI c), .int (nI (N (12 + 4 * p))), .int (nI (c / N 1) - nI (N (12 + 4 * p) / N 1)), .int (nI (c % N 1) - nI (N (12 + 4 * p) % N 1)), .float 0, .float 0] from ?_)) rfl ?_
  · rw [show (1 : Int32).toNatClampNeg = 1 from rfl, hM 1 (by decide), xn_rem (by omega) (by omega) (by omega), xn_rem (by omega) (by omega) (by omega)]
  refine xw_go xb_118 2 (f1 := (48, [.ref 60, .int (nI p), .int (nI c), .int (nI (N (12 + 4 * p))), .int (nI (c / N 1) - nI (N (12 + 4 * p) / N 1)), .int (nI (c % N 1) - nI (N (12 + 4 * p) % N 1)), .float 0, .float 0], [.int 0, .int (nI (c / N 1) - nI (N (12 + 4 * p) / N 1))])) (h1 := (xS b, I, L, xP b)) rfl trivial ?_
  refine xw_call xb_118 rfl rfl rfl rfl rfl (Or.inl rfl) (m_apart (u := c / N 1) (v := N (12 + 4 * p) / N 1) (by omega) (by omega) rfl) ?_
  rintro _ _ ⟨rfl, rfl⟩
  refine xw_at (f' := (51, [.ref 60, .int (nI p), .int (nI c), .int (nI (N (12 + 4 * p))), .int (nI (c / N 1) - nI (N (12 + 4 * p) / N 1)), .int (nI (c % N 1) - nI (N (12 + 4 * p) % N 1)), .float 0, .float 0], [.int (nI (xd (c / N 1) (N (12 + 4 * p) / N 1)))])) (h' := (xS b, I, L, xP b)) rfl rfl ?_
  refine xw_go xb_118 2 (f1 := (54, [.ref 60, .int (nI p), .int (nI c), .int (nI (N (12 + 4 * p))), .int (nI (c / N 1) - nI (N (12 + 4 * p) / N 1)), .int (nI (c % N 1) - nI (N (12 + 4 * p) % N 1)), .float 0, .float 0], [.int 0, .int (nI (c % N 1) - nI (N (12 + 4 * p) % N 1)), .int (nI (xd (c / N 1) (N (12 + 4 * p) / N 1)))])) (h1 := (xS b, I, L, xP b)) rfl trivial ?_
  refine xw_call xb_118 rfl rfl rfl rfl rfl (Or.inl rfl) (m_apart (u := c % N 1) (v := N (12 + 4 * p) % N 1) (by omega) (by omega) rfl) ?_
  rintro _ _ ⟨rfl, rfl⟩
  refine xw_at (f' := (57, [.ref 60, .int (nI p), .int (nI c), .int (nI (N (12 + 4 * p))), .int (nI (c / N 1) - nI (N (12 + 4 * p) / N 1)), .int (nI (c % N 1) - nI (N (12 + 4 * p) % N 1)), .float 0, .float 0], [.int (nI (xd (c % N 1) (N (12 + 4 * p) % N 1))), .int (nI (xd (c / N 1) (N (12 + 4 * p) / N 1)))])) (h' := (xS b, I, L, xP b)) rfl rfl ?_
  refine xw_call xb_118 rfl rfl rfl rfl rfl (Or.inl rfl) (m_most (u := xd (c / N 1) (N (12 + 4 * p) / N 1)) (v := xd (c % N 1) (N (12 + 4 * p) % N 1)) (by have := xd_lt q1 q2; omega) (by have := xd_lt q3 q4; omega) rfl rfl) ?_
  rintro _ _ ⟨rfl, rfl⟩
  refine xw_at (f' := (60, [.ref 60, .int (nI p), .int (nI c), .int (nI (N (12 + 4 * p))), .int (nI (c / N 1) - nI (N (12 + 4 * p) / N 1)), .int (nI (c % N 1) - nI (N (12 + 4 * p) % N 1)), .float 0, .float 0], [.int (nI (max (xd (c / N 1) (N (12 + 4 * p) / N 1)) (xd (c % N 1) (N (12 + 4 * p) % N 1))))])) (h' := (xS b, I, L, xP b)) rfl rfl ?_
  refine xw_go xb_118 1 (f1 := (62, [.ref 60, .int (nI p), .int (nI c), .int (nI (N (12 + 4 * p))), .int (nI (c / N 1) - nI (N (12 + 4 * p) / N 1)), .int (nI (c % N 1) - nI (N (12 + 4 * p) % N 1)), .int (nI (max (xd (c / N 1) (N (12 + 4 * p) / N 1)) (xd (c % N 1) (N (12 + 4 * p) % N 1)))), .float 0], [])) (h1 := (xS b, I, L, xP b)) rfl trivial ?_
  obtain ⟨far, hfar⟩ : ∃ far, max (xd (c / N 1) (N (12 + 4 * p) / N 1)) (xd (c % N 1) (N (12 + 4 * p) % N 1)) = far := ⟨_, rfl⟩
  have hf8 : far < 8 := by have := xd_lt q1 q2; have := xd_lt q3 q4; omega
  refine xw_at (f' := (62, [.ref 60, .int (nI p), .int (nI c), .int (nI (N (12 + 4 * p))), .int (nI (c / N 1) - nI (N (12 + 4 * p) / N 1)), .int (nI (c % N 1) - nI (N (12 + 4 * p) % N 1)), .int (nI far), .float 0], [])) (h' := (xS b, I, L, xP b)) (congrArg (fun l => (62, l, [])) (show ([.ref 60, .int (nI p), .int (nI c), .int (nI (N (12 + 4 * p))), .int (nI (c / N 1) - nI (N (12 + 4 * p) / N 1)), .int (nI (c % N 1) - nI (N (12 + 4 * p) % N 1)), .int (nI (max (xd (c / N 1) (N (12 + 4 * p) / N 1)) (xd (c % N 1) (N (12 + 4 * p) % N 1)))), .float 0] : List Value) = [.ref 60, .int (nI p), .int (nI c), .int (nI (N (12 + 4 * p))), .int (nI (c / N 1) - nI (N (12 + 4 * p) / N 1)), .int (nI (c % N 1) - nI (N (12 + 4 * p) % N 1)), .int (nI far), .float 0] from ?_)) rfl ?_
  · rw [hfar]
  refine xw_go xb_118 3 (f1 := (65, [.ref 60, .int (nI p), .int (nI c), .int (nI (N (12 + 4 * p))), .int (nI (c / N 1) - nI (N (12 + 4 * p) / N 1)), .int (nI (c % N 1) - nI (N (12 + 4 * p) % N 1)), .int (nI far), .float 0], [.int 3, .int (nI p), .ref 60])) (h1 := (xS b, I, L, xP b)) rfl trivial ?_
  refine xw_call xb_118 rfl rfl rfl rfl rfl (Or.inr ⟨_, _, rfl, rfl⟩) (m_told hM (p := p) (w := 3) (by omega) (by decide) rfl rfl) ?_
  rintro _ _ ⟨rfl, rfl⟩
  refine xw_at (f' := (68, [.ref 60, .int (nI p), .int (nI c), .int (nI (N (12 + 4 * p))), .int (nI (c / N 1) - nI (N (12 + 4 * p) / N 1)), .int (nI (c % N 1) - nI (N (12 + 4 * p) % N 1)), .int (nI far), .float 0], [.int (nI (N (11 + 4 * p + 3)))])) (h' := (xS b, I, L, xP b)) rfl rfl ?_
  refine xw_go xb_118 1 (f1 := (70, [.ref 60, .int (nI p), .int (nI c), .int (nI (N (12 + 4 * p))), .int (nI (c / N 1) - nI (N (12 + 4 * p) / N 1)), .int (nI (c % N 1) - nI (N (12 + 4 * p) % N 1)), .int (nI far), .int (nI (N (11 + 4 * p + 3)))], [])) (h1 := (xS b, I, L, xP b)) rfl trivial ?_
  refine xw_at (f' := (70, [.ref 60, .int (nI p), .int (nI c), .int (nI (N (12 + 4 * p))), .int (nI (c / N 1) - nI (N (12 + 4 * p) / N 1)), .int (nI (c % N 1) - nI (N (12 + 4 * p) % N 1)), .int (nI far), .int (nI (N (14 + 4 * p)))], [])) (h' := (xS b, I, L, xP b)) (congrArg (fun l => (70, l, [])) (show ([.ref 60, .int (nI p), .int (nI c), .int (nI (N (12 + 4 * p))), .int (nI (c / N 1) - nI (N (12 + 4 * p) / N 1)), .int (nI (c % N 1) - nI (N (12 + 4 * p) % N 1)), .int (nI far), .int (nI (N (11 + 4 * p + 3)))] : List Value) = [.ref 60, .int (nI p), .int (nI c), .int (nI (N (12 + 4 * p))), .int (nI (c / N 1) - nI (N (12 + 4 * p) / N 1)), .int (nI (c % N 1) - nI (N (12 + 4 * p) % N 1)), .int (nI far), .int (nI (N (14 + 4 * p)))] from ?_)) rfl ?_
  · rw [show 11 + 4 * p + 3 = 14 + 4 * p by omega]
  refine xw_go xb_118 4 (f1 := (75, [.ref 60, .int (nI p), .int (nI c), .int (nI (N (12 + 4 * p))), .int (nI (c / N 1) - nI (N (12 + 4 * p) / N 1)), .int (nI (c % N 1) - nI (N (12 + 4 * p) % N 1)), .int (nI far), .int (nI (N (14 + 4 * p)))], [.int 2, .int (nI p), .ref 60, .int (nI far)])) (h1 := (xS b, I, L, xP b)) rfl trivial ?_
  refine xw_call xb_118 rfl rfl rfl rfl rfl (Or.inr ⟨_, _, rfl, rfl⟩) (m_told hM (p := p) (w := 2) (by omega) (by decide) rfl rfl) ?_
  rintro _ _ ⟨rfl, rfl⟩
  refine xw_at (f' := (78, [.ref 60, .int (nI p), .int (nI c), .int (nI (N (12 + 4 * p))), .int (nI (c / N 1) - nI (N (12 + 4 * p) / N 1)), .int (nI (c % N 1) - nI (N (12 + 4 * p) % N 1)), .int (nI far), .int (nI (N (14 + 4 * p)))], [.int (nI (N (11 + 4 * p + 2))), .int (nI far)])) (h' := (xS b, I, L, xP b)) rfl rfl ?_
  refine xw_go xb_118 1 (f1 := (if (nI far) ≤ (nI (N (11 + 4 * p + 2))) then 83 else 81, [.ref 60, .int (nI p), .int (nI c), .int (nI (N (12 + 4 * p))), .int (nI (c / N 1) - nI (N (12 + 4 * p) / N 1)), .int (nI (c % N 1) - nI (N (12 + 4 * p) % N 1)), .int (nI far), .int (nI (N (14 + 4 * p)))], [])) (h1 := (xS b, I, L, xP b)) rfl trivial ?_
  refine xw_if (fun c_78 => ?_) (fun c_78 => ?_)
  · skip
    refine xw_go xb_118 3 (f1 := (86, [.ref 60, .int (nI p), .int (nI c), .int (nI (N (12 + 4 * p))), .int (nI (c / N 1) - nI (N (12 + 4 * p) / N 1)), .int (nI (c % N 1) - nI (N (12 + 4 * p) % N 1)), .int (nI far), .int (nI (N (14 + 4 * p)))], [.int 0, .int (nI p), .ref 60])) (h1 := (xS b, I, L, xP b)) rfl trivial ?_
    refine xw_call xb_118 rfl rfl rfl rfl rfl (Or.inr ⟨_, _, rfl, rfl⟩) (m_told hM (p := p) (w := 0) (by omega) (by decide) rfl rfl) ?_
    rintro _ _ ⟨rfl, rfl⟩
    refine xw_at (f' := (89, [.ref 60, .int (nI p), .int (nI c), .int (nI (N (12 + 4 * p))), .int (nI (c / N 1) - nI (N (12 + 4 * p) / N 1)), .int (nI (c % N 1) - nI (N (12 + 4 * p) % N 1)), .int (nI far), .int (nI (N (14 + 4 * p)))], [.int (nI (N (11 + 4 * p + 0)))])) (h' := (xS b, I, L, xP b)) rfl rfl ?_
    refine xw_go xb_118 1 (f1 := (xm_sw [(0, 120), (1, 130), (2, 139), (3, 165)] 185 (nI (N (11 + 4 * p + 0))), [.ref 60, .int (nI p), .int (nI c), .int (nI (N (12 + 4 * p))), .int (nI (c / N 1) - nI (N (12 + 4 * p) / N 1)), .int (nI (c % N 1) - nI (N (12 + 4 * p) % N 1)), .int (nI far), .int (nI (N (14 + 4 * p)))], [])) (h1 := (xS b, I, L, xP b)) rfl trivial ?_
    refine xw_if (fun c_89_0 => ?_) (fun c_89_0 => ?_)
    · skip
      refine xw_go xb_118 4 (f1 := (126, [.ref 60, .int (nI p), .int (nI c), .int (nI (N (12 + 4 * p))), .int (nI (c / N 1) - nI (N (12 + 4 * p) / N 1)), .int (nI (c % N 1) - nI (N (12 + 4 * p) % N 1)), .int (nI far), .int (nI (N (14 + 4 * p)))], [.int 0, .int ((nI (N (14 + 4 * p))) - (nI far))])) (h1 := (xS b, I, L, xP b)) rfl trivial ?_
      refine xw_call xb_118 rfl rfl rfl rfl rfl (Or.inl rfl) (m_most0 (u := N (14 + 4 * p)) (v := far) (by omega) (by omega) rfl) ?_
      rintro _ _ ⟨rfl, rfl⟩
      refine xw_at (f' := (129, [.ref 60, .int (nI p), .int (nI c), .int (nI (N (12 + 4 * p))), .int (nI (c / N 1) - nI (N (12 + 4 * p) / N 1)), .int (nI (c % N 1) - nI (N (12 + 4 * p) % N 1)), .int (nI far), .int (nI (N (14 + 4 * p)))], [.int (nI (N (14 + 4 * p) - far))])) (h' := (xS b, I, L, xP b)) rfl rfl ?_
      refine xw_ret xb_118 rfl rfl trivial ?_
      refine ⟨xm_some (congrArg Value.int ?_), rfl⟩
      simp (disch := omega) only [show 11 + 4 * p + 2 = 13 + 4 * p by omega, Nat.add_zero, xl_0, xl_1, xl_2, xl_3, xl_4, xl_5, xl_7, xl_8, xl_9, xl_10, nI_leI, nI_ltI, nI_eq, xu_neg, xu_nneg] at c_78 c_89_0
      try simp (disch := omega) only [xl_0, xl_2, xl_4, pk_mul]
      congr 1
      unfold xth xs_thr
      rw [hfar]
      (repeat' split) <;> omega
    refine xw_if (fun c_89_1 => ?_) (fun c_89_1 => ?_)
    · skip
      refine xw_go xb_118 4 (f1 := (135, [.ref 60, .int (nI p), .int (nI c), .int (nI (N (12 + 4 * p))), .int (nI (c / N 1) - nI (N (12 + 4 * p) / N 1)), .int (nI (c % N 1) - nI (N (12 + 4 * p) % N 1)), .int (nI far), .int (nI (N (14 + 4 * p)))], [.int 1, .int ((nI (N (14 + 4 * p))) / 2)])) (h1 := (xS b, I, L, xP b)) rfl ⟨?_, trivial⟩ ?_
      · first | decide | skip
      refine xw_call xb_118 rfl rfl rfl rfl rfl (Or.inl rfl) (m_most (u := N (14 + 4 * p) / 2) (v := 1) (by omega) (by omega) (by rw [xl_2]; exact xn_div (by omega) (by omega) (by omega)) rfl) ?_
      rintro _ _ ⟨rfl, rfl⟩
      refine xw_at (f' := (138, [.ref 60, .int (nI p), .int (nI c), .int (nI (N (12 + 4 * p))), .int (nI (c / N 1) - nI (N (12 + 4 * p) / N 1)), .int (nI (c % N 1) - nI (N (12 + 4 * p) % N 1)), .int (nI far), .int (nI (N (14 + 4 * p)))], [.int (nI (max (N (14 + 4 * p) / 2) 1))])) (h' := (xS b, I, L, xP b)) rfl rfl ?_
      refine xw_ret xb_118 rfl rfl trivial ?_
      refine ⟨xm_some (congrArg Value.int ?_), rfl⟩
      simp (disch := omega) only [show 11 + 4 * p + 2 = 13 + 4 * p by omega, Nat.add_zero, xl_0, xl_1, xl_2, xl_3, xl_4, xl_5, xl_7, xl_8, xl_9, xl_10, nI_leI, nI_ltI, nI_eq, xu_neg, xu_nneg] at c_78 c_89_0 c_89_1
      try simp (disch := omega) only [xl_0, xl_2, xl_4, pk_mul]
      congr 1
      unfold xth xs_thr
      rw [hfar]
      (repeat' split) <;> omega
    refine xw_if (fun c_89_2 => ?_) (fun c_89_2 => ?_)
    · skip
      refine xw_go xb_118 2 (f1 := (if (nI (c / N 1) - nI (N (12 + 4 * p) / N 1)) < 0 then 149 else 144, [.ref 60, .int (nI p), .int (nI c), .int (nI (N (12 + 4 * p))), .int (nI (c / N 1) - nI (N (12 + 4 * p) / N 1)), .int (nI (c % N 1) - nI (N (12 + 4 * p) % N 1)), .int (nI far), .int (nI (N (14 + 4 * p)))], [])) (h1 := (xS b, I, L, xP b)) rfl trivial ?_
      refine xw_if (fun c_141 => ?_) (fun c_141 => ?_)
      · skip
        refine xw_go xb_118 2 (f1 := (164, [.ref 60, .int (nI p), .int (nI c), .int (nI (N (12 + 4 * p))), .int (nI (c / N 1) - nI (N (12 + 4 * p) / N 1)), .int (nI (c % N 1) - nI (N (12 + 4 * p) % N 1)), .int (nI far), .int (nI (N (14 + 4 * p)))], [.int 0])) (h1 := (xS b, I, L, xP b)) rfl trivial ?_
        refine xw_ret xb_118 rfl rfl trivial ?_
        refine ⟨xm_some (congrArg Value.int ?_), rfl⟩
        simp (disch := omega) only [show 11 + 4 * p + 2 = 13 + 4 * p by omega, Nat.add_zero, xl_0, xl_1, xl_2, xl_3, xl_4, xl_5, xl_7, xl_8, xl_9, xl_10, nI_leI, nI_ltI, nI_eq, xu_neg, xu_nneg] at c_78 c_89_0 c_89_1 c_89_2 c_141
        try simp (disch := omega) only [xl_0, xl_2, xl_4, pk_mul]
        congr 1
        unfold xth xs_thr
        rw [hfar]
        (repeat' split) <;> omega
      · skip
        refine xw_go xb_118 2 (f1 := (if 0 ≤ (nI (c % N 1) - nI (N (12 + 4 * p) % N 1)) then 153 else 149, [.ref 60, .int (nI p), .int (nI c), .int (nI (N (12 + 4 * p))), .int (nI (c / N 1) - nI (N (12 + 4 * p) / N 1)), .int (nI (c % N 1) - nI (N (12 + 4 * p) % N 1)), .int (nI far), .int (nI (N (14 + 4 * p)))], [])) (h1 := (xS b, I, L, xP b)) rfl trivial ?_
        refine xw_if (fun c_146 => ?_) (fun c_146 => ?_)
        · skip
          refine xw_go xb_118 5 (f1 := (160, [.ref 60, .int (nI p), .int (nI c), .int (nI (N (12 + 4 * p))), .int (nI (c / N 1) - nI (N (12 + 4 * p) / N 1)), .int (nI (c % N 1) - nI (N (12 + 4 * p) % N 1)), .int (nI far), .int (nI (N (14 + 4 * p)))], [.int 0, .int ((nI (N (14 + 4 * p))) - (nI far)), .int 4])) (h1 := (xS b, I, L, xP b)) rfl trivial ?_
          refine xw_call xb_118 rfl rfl rfl rfl rfl (Or.inl rfl) (m_most0 (u := N (14 + 4 * p)) (v := far) (by omega) (by omega) rfl) ?_
          rintro _ _ ⟨rfl, rfl⟩
          refine xw_at (f' := (163, [.ref 60, .int (nI p), .int (nI c), .int (nI (N (12 + 4 * p))), .int (nI (c / N 1) - nI (N (12 + 4 * p) / N 1)), .int (nI (c % N 1) - nI (N (12 + 4 * p) % N 1)), .int (nI far), .int (nI (N (14 + 4 * p)))], [.int (nI (N (14 + 4 * p) - far)), .int 4])) (h' := (xS b, I, L, xP b)) rfl rfl ?_
          refine xw_go xb_118 1 (f1 := (164, [.ref 60, .int (nI p), .int (nI c), .int (nI (N (12 + 4 * p))), .int (nI (c / N 1) - nI (N (12 + 4 * p) / N 1)), .int (nI (c % N 1) - nI (N (12 + 4 * p) % N 1)), .int (nI far), .int (nI (N (14 + 4 * p)))], [.int (4 * (nI (N (14 + 4 * p) - far)))])) (h1 := (xS b, I, L, xP b)) rfl trivial ?_
          refine xw_ret xb_118 rfl rfl trivial ?_
          refine ⟨xm_some (congrArg Value.int ?_), rfl⟩
          simp (disch := omega) only [show 11 + 4 * p + 2 = 13 + 4 * p by omega, Nat.add_zero, xl_0, xl_1, xl_2, xl_3, xl_4, xl_5, xl_7, xl_8, xl_9, xl_10, nI_leI, nI_ltI, nI_eq, xu_neg, xu_nneg] at c_78 c_89_0 c_89_1 c_89_2 c_141 c_146
          try simp (disch := omega) only [xl_0, xl_2, xl_4, pk_mul]
          congr 1
          unfold xth xs_thr
          rw [hfar]
          (repeat' split) <;> omega
        · skip
          refine xw_go xb_118 2 (f1 := (164, [.ref 60, .int (nI p), .int (nI c), .int (nI (N (12 + 4 * p))), .int (nI (c / N 1) - nI (N (12 + 4 * p) / N 1)), .int (nI (c % N 1) - nI (N (12 + 4 * p) % N 1)), .int (nI far), .int (nI (N (14 + 4 * p)))], [.int 0])) (h1 := (xS b, I, L, xP b)) rfl trivial ?_
          refine xw_ret xb_118 rfl rfl trivial ?_
          refine ⟨xm_some (congrArg Value.int ?_), rfl⟩
          simp (disch := omega) only [show 11 + 4 * p + 2 = 13 + 4 * p by omega, Nat.add_zero, xl_0, xl_1, xl_2, xl_3, xl_4, xl_5, xl_7, xl_8, xl_9, xl_10, nI_leI, nI_ltI, nI_eq, xu_neg, xu_nneg] at c_78 c_89_0 c_89_1 c_89_2 c_141 c_146
          try simp (disch := omega) only [xl_0, xl_2, xl_4, pk_mul]
          congr 1
          unfold xth xs_thr
          rw [hfar]
          (repeat' split) <;> omega
    refine xw_if (fun c_89_3 => ?_) (fun c_89_3 => ?_)
    · skip
      refine xw_go xb_118 2 (f1 := (if (nI far) ≤ 0 then 174 else 170, [.ref 60, .int (nI p), .int (nI c), .int (nI (N (12 + 4 * p))), .int (nI (c / N 1) - nI (N (12 + 4 * p) / N 1)), .int (nI (c % N 1) - nI (N (12 + 4 * p) % N 1)), .int (nI far), .int (nI (N (14 + 4 * p)))], [])) (h1 := (xS b, I, L, xP b)) rfl trivial ?_
      refine xw_if (fun c_167 => ?_) (fun c_167 => ?_)
      · skip
        refine xw_go xb_118 5 (f1 := (180, [.ref 60, .int (nI p), .int (nI c), .int (nI (N (12 + 4 * p))), .int (nI (c / N 1) - nI (N (12 + 4 * p) / N 1)), .int (nI (c % N 1) - nI (N (12 + 4 * p) % N 1)), .int (nI far), .int (nI (N (14 + 4 * p)))], [.int 1, .int ((nI (N (14 + 4 * p))) / 2), .int 2])) (h1 := (xS b, I, L, xP b)) rfl ⟨?_, trivial⟩ ?_
        · first | decide | skip
        refine xw_call xb_118 rfl rfl rfl rfl rfl (Or.inl rfl) (m_most (u := N (14 + 4 * p) / 2) (v := 1) (by omega) (by omega) (by rw [xl_2]; exact xn_div (by omega) (by omega) (by omega)) rfl) ?_
        rintro _ _ ⟨rfl, rfl⟩
        refine xw_at (f' := (183, [.ref 60, .int (nI p), .int (nI c), .int (nI (N (12 + 4 * p))), .int (nI (c / N 1) - nI (N (12 + 4 * p) / N 1)), .int (nI (c % N 1) - nI (N (12 + 4 * p) % N 1)), .int (nI far), .int (nI (N (14 + 4 * p)))], [.int (nI (max (N (14 + 4 * p) / 2) 1)), .int 2])) (h' := (xS b, I, L, xP b)) rfl rfl ?_
        refine xw_go xb_118 1 (f1 := (184, [.ref 60, .int (nI p), .int (nI c), .int (nI (N (12 + 4 * p))), .int (nI (c / N 1) - nI (N (12 + 4 * p) / N 1)), .int (nI (c % N 1) - nI (N (12 + 4 * p) % N 1)), .int (nI far), .int (nI (N (14 + 4 * p)))], [.int (2 * (nI (max (N (14 + 4 * p) / 2) 1)))])) (h1 := (xS b, I, L, xP b)) rfl trivial ?_
        refine xw_ret xb_118 rfl rfl trivial ?_
        refine ⟨xm_some (congrArg Value.int ?_), rfl⟩
        simp (disch := omega) only [show 11 + 4 * p + 2 = 13 + 4 * p by omega, Nat.add_zero, xl_0, xl_1, xl_2, xl_3, xl_4, xl_5, xl_7, xl_8, xl_9, xl_10, nI_leI, nI_ltI, nI_eq, xu_neg, xu_nneg] at c_78 c_89_0 c_89_1 c_89_2 c_89_3 c_167
        try simp (disch := omega) only [xl_0, xl_2, xl_4, pk_mul]
        congr 1
        unfold xth xs_thr
        rw [hfar]
        (repeat' split) <;> omega
      · skip
        refine xw_go xb_118 2 (f1 := (184, [.ref 60, .int (nI p), .int (nI c), .int (nI (N (12 + 4 * p))), .int (nI (c / N 1) - nI (N (12 + 4 * p) / N 1)), .int (nI (c % N 1) - nI (N (12 + 4 * p) % N 1)), .int (nI far), .int (nI (N (14 + 4 * p)))], [.int 0])) (h1 := (xS b, I, L, xP b)) rfl trivial ?_
        refine xw_ret xb_118 rfl rfl trivial ?_
        refine ⟨xm_some (congrArg Value.int ?_), rfl⟩
        simp (disch := omega) only [show 11 + 4 * p + 2 = 13 + 4 * p by omega, Nat.add_zero, xl_0, xl_1, xl_2, xl_3, xl_4, xl_5, xl_7, xl_8, xl_9, xl_10, nI_leI, nI_ltI, nI_eq, xu_neg, xu_nneg] at c_78 c_89_0 c_89_1 c_89_2 c_89_3 c_167
        try simp (disch := omega) only [xl_0, xl_2, xl_4, pk_mul]
        congr 1
        unfold xth xs_thr
        rw [hfar]
        (repeat' split) <;> omega
    refine xw_at (f' := (185, [.ref 60, .int (nI p), .int (nI c), .int (nI (N (12 + 4 * p))), .int (nI (c / N 1) - nI (N (12 + 4 * p) / N 1)), .int (nI (c % N 1) - nI (N (12 + 4 * p) % N 1)), .int (nI far), .int (nI (N (14 + 4 * p)))], [])) (h' := (xS b, I, L, xP b)) rfl rfl ?_
    refine xw_go xb_118 6 (f1 := (193, [.ref 60, .int (nI p), .int (nI c), .int (nI (N (12 + 4 * p))), .int (nI (c / N 1) - nI (N (12 + 4 * p) / N 1)), .int (nI (c % N 1) - nI (N (12 + 4 * p) % N 1)), .int (nI far), .int (nI (N (14 + 4 * p)))], [.int 0, .int ((nI (N (14 + 4 * p))) - ((nI far) / 2))])) (h1 := (xS b, I, L, xP b)) rfl ⟨?_, trivial⟩ ?_
    · first | decide | skip
    refine xw_call xb_118 rfl rfl rfl rfl rfl (Or.inl rfl) (m_most0 (u := N (14 + 4 * p)) (v := far / 2) (by omega) (by omega) (by rw [xl_2, xn_div (by omega) (by omega) (by omega)])) ?_
    rintro _ _ ⟨rfl, rfl⟩
    refine xw_at (f' := (196, [.ref 60, .int (nI p), .int (nI c), .int (nI (N (12 + 4 * p))), .int (nI (c / N 1) - nI (N (12 + 4 * p) / N 1)), .int (nI (c % N 1) - nI (N (12 + 4 * p) % N 1)), .int (nI far), .int (nI (N (14 + 4 * p)))], [.int (nI (N (14 + 4 * p) - far / 2))])) (h' := (xS b, I, L, xP b)) rfl rfl ?_
    refine xw_ret xb_118 rfl rfl trivial ?_
    refine ⟨xm_some (congrArg Value.int ?_), rfl⟩
    simp (disch := omega) only [show 11 + 4 * p + 2 = 13 + 4 * p by omega, Nat.add_zero, xl_0, xl_1, xl_2, xl_3, xl_4, xl_5, xl_7, xl_8, xl_9, xl_10, nI_leI, nI_ltI, nI_eq, xu_neg, xu_nneg] at c_78 c_89_0 c_89_1 c_89_2 c_89_3
    try simp (disch := omega) only [xl_0, xl_2, xl_4, pk_mul]
    congr 1
    unfold xth xs_thr
    rw [hfar]
    (repeat' split) <;> omega
  · skip
    refine xw_go xb_118 1 (f1 := (82, [.ref 60, .int (nI p), .int (nI c), .int (nI (N (12 + 4 * p))), .int (nI (c / N 1) - nI (N (12 + 4 * p) / N 1)), .int (nI (c % N 1) - nI (N (12 + 4 * p) % N 1)), .int (nI far), .int (nI (N (14 + 4 * p)))], [.int 0])) (h1 := (xS b, I, L, xP b)) rfl trivial ?_
    refine xw_ret xb_118 rfl rfl trivial ?_
    refine ⟨xm_some (congrArg Value.int ?_), rfl⟩
    simp (disch := omega) only [show 11 + 4 * p + 2 = 13 + 4 * p by omega, Nat.add_zero, xl_0, xl_1, xl_2, xl_3, xl_4, xl_5, xl_7, xl_8, xl_9, xl_10, nI_leI, nI_ltI, nI_eq, xu_neg, xu_nneg] at c_78
    try simp (disch := omega) only [xl_0, xl_2, xl_4, pk_mul]
    congr 1
    unfold xth xs_thr
    rw [hfar]
    (repeat' split) <;> omega

