/-! ===== the class: leaves ===== -/
theorem c_ring {d : Nat} {S : List (Nat × Nat)} {I : Nat → Nat → Int32} {L : Nat → Nat → Int64} {P : Nat → Nat → Option Nat} {a w f : Nat} (ho : S[a]? = some (11, 4)) (hw : I a 3 = nI w) (b1 : w < 100) (b2 : f < 100) {x1 : Int32} (e_x1 : x1 = nI f) : xm_Z (d + 1) 29 [.ref a, .int x1] (S, I, L, P) (fun rz hz => rz = some (.int (nI (w - f))) ∧ hz = (S, I, L, P)) := by
  subst e_x1
  refine xw_S xb_29 (Nat.le_of_ble_eq_true rfl) rfl ?_
  refine xw_go xb_29 4 rfl ⟨ho, trivial⟩ ?_
  refine xw_if (fun c_5 => ?_) (fun c_5 => ?_)
  · skip
    refine xw_go xb_29 1 rfl trivial ?_
    refine xw_ret xb_29 rfl rfl trivial ?_
    refine ⟨xm_some (congrArg Value.int ?_), rfl⟩
    simp (disch := omega) only [hw, nI_leI, nI_ltI] at c_5
    first | (rw [show w - f = 0 by omega]; rfl) | (show I a 3 - nI f = _; rw [hw, xn_sub (by omega)])
  · skip
    refine xw_go xb_29 5 rfl ⟨ho, trivial⟩ ?_
    refine xw_ret xb_29 rfl rfl trivial ?_
    refine ⟨xm_some (congrArg Value.int ?_), rfl⟩
    simp (disch := omega) only [hw, nI_leI, nI_ltI] at c_5
    first | (rw [show w - f = 0 by omega]; rfl) | (show I a 3 - nI f = _; rw [hw, xn_sub (by omega)])

theorem c_even {d : Nat} {S : List (Nat × Nat)} {I : Nat → Nat → Int32} {L : Nat → Nat → Int64} {P : Nat → Nat → Option Nat} {a w : Nat} (ho : S[a]? = some (11, 4)) (hw : I a 3 = nI w) (b1 : w < 100) : xm_Z (d + 1) 28 [.ref a] (S, I, L, P) (fun rz hz => rz = some (.int (nI (max (w / 2) 1))) ∧ hz = (S, I, L, P)) := by
  refine xw_S xb_28 (Nat.le_of_ble_eq_true rfl) rfl ?_
  refine xw_go xb_28 4 rfl ⟨ho, trivial⟩ ?_
  refine xw_if (fun c_5 => ?_) (fun c_5 => ?_)
  · skip
    refine xw_go xb_28 1 rfl trivial ?_
    refine xw_ret xb_28 rfl rfl trivial ?_
    refine ⟨xm_some (congrArg Value.int ?_), rfl⟩
    simp (disch := omega) only [hw, nI_leI, nI_ltI, xl_2] at c_5
    first | (show I a 3 / 2 = _; rw [hw, xl_2, xn_div (by omega) (by omega) (by omega)]; congr 1; omega) | (show (1 : Int32) = _; rw [xl_1]; congr 1; omega)
  · skip
    refine xw_go xb_28 5 rfl ⟨ho, ?_, trivial⟩ ?_
    · first | decide | skip
    refine xw_ret xb_28 rfl rfl trivial ?_
    refine ⟨xm_some (congrArg Value.int ?_), rfl⟩
    simp (disch := omega) only [hw, nI_leI, nI_ltI, xl_2] at c_5
    first | (show I a 3 / 2 = _; rw [hw, xl_2, xn_div (by omega) (by omega) (by omega)]; congr 1; omega) | (show (1 : Int32) = _; rw [xl_1]; congr 1; omega)

set_option maxHeartbeats 2000000 in
theorem c_thrown {d : Nat} {S : List (Nat × Nat)} {I : Nat → Nat → Int32} {L : Nat → Nat → Int64} {P : Nat → Nat → Option Nat} {a k re w r r0 q q0 : Nat} (ho : S[a]? = some (11, 4)) (hk : I a 0 = nI k) (hr : I a 2 = nI re) (hw : I a 3 = nI w) (bk : k < 5) (br : re < 5) (b1 : w < 10) (b2 : r < 8) (b3 : r0 < 8) (b4 : q < 8) (b5 : q0 < 8) {x1 : Int32} (e_x1 : x1 = nI r - nI r0) {x2 : Int32} (e_x2 : x2 = nI q - nI q0) : xm_Z (d + 2) 25 [.ref a, .int x1, .int x2] (S, I, L, P) (fun rz hz => rz = some (.int (nI (xs_thr k re w r r0 q q0))) ∧ hz = (S, I, L, P)) := by
  subst e_x2
  subst e_x1
  refine xw_S xb_25 (Nat.le_of_ble_eq_true rfl) rfl ?_
  refine xw_go xb_25 6 rfl ⟨Nat.le_of_ble_eq_true rfl, Nat.le_of_ble_eq_true rfl, Nat.le_of_ble_eq_true rfl, trivial⟩ ?_
  generalize hfar : max (xd r r0) (xd q q0) = far
  refine xw_cong (l' := [.ref a, .int (nI r - nI r0), .int (nI q - nI q0), .int (nI far)]) ?_ rfl rfl ?_
  · show [Value.ref a, .int (nI r - nI r0), .int (nI q - nI q0), .int (if (if 0 ≤ nI r - nI r0 then nI r - nI r0 else 0 - (nI r - nI r0)) < (if 0 ≤ nI q - nI q0 then nI q - nI q0 else 0 - (nI q - nI q0)) then (if 0 ≤ nI q - nI q0 then nI q - nI q0 else 0 - (nI q - nI q0)) else (if 0 ≤ nI r - nI r0 then nI r - nI r0 else 0 - (nI r - nI r0)))] = _
    rw [xt_abs (by omega) (by omega), xt_abs (by omega) (by omega), xt_max (by unfold xd; omega) (by unfold xd; omega), hfar]
  have hf8 : far < 8 := by rw [← hfar]; unfold xd; omega
  refine xw_go xb_25 4 rfl ⟨ho, trivial⟩ ?_
  refine xw_if (fun c_17 => ?_) (fun c_17 => ?_)
  · skip
    refine xw_go xb_25 3 rfl ⟨ho, trivial⟩ ?_
    refine xw_if (fun c_26_0 => ?_) (fun c_26_0 => ?_)
    · skip
      refine xw_go xb_25 1 rfl trivial ?_
      refine xw_call xb_25 rfl rfl rfl rfl rfl (Or.inr ⟨_, _, rfl, ho⟩) (c_even ho hw (by omega)) ?_
      rintro _ _ ⟨rfl, rfl⟩
      refine xw_ret xb_25 rfl rfl trivial ?_
      refine ⟨xm_some (congrArg Value.int ?_), rfl⟩
      simp (disch := omega) only [hk, hr, xl_0, xl_1, xl_2, xl_3, xl_4, xl_5, xl_7, xl_8, xl_9, xl_10, nI_leI, nI_ltI, nI_eq, xu_neg, xu_nneg] at c_17 c_26_0
      try simp (disch := omega) only [xl_0, xl_2, xl_4, pk_mul]
      congr 1
      unfold xs_thr
      rw [hfar]
      (repeat' split) <;> omega
    refine xw_if (fun c_26_1 => ?_) (fun c_26_1 => ?_)
    · skip
      refine xw_go xb_25 2 rfl trivial ?_
      refine xw_if (fun c_62 => ?_) (fun c_62 => ?_)
      · skip
        refine xw_go xb_25 2 rfl trivial ?_
        refine xw_ret xb_25 rfl rfl trivial ?_
        refine ⟨xm_some (congrArg Value.int ?_), rfl⟩
        simp (disch := omega) only [hk, hr, xl_0, xl_1, xl_2, xl_3, xl_4, xl_5, xl_7, xl_8, xl_9, xl_10, nI_leI, nI_ltI, nI_eq, xu_neg, xu_nneg] at c_17 c_26_0 c_26_1 c_62
        try simp (disch := omega) only [xl_0, xl_2, xl_4, pk_mul]
        congr 1
        unfold xs_thr
        rw [hfar]
        (repeat' split) <;> omega
      · skip
        refine xw_go xb_25 2 rfl trivial ?_
        refine xw_if (fun c_66 => ?_) (fun c_66 => ?_)
        · skip
          refine xw_go xb_25 3 rfl trivial ?_
          refine xw_call xb_25 rfl rfl rfl rfl rfl (Or.inr ⟨_, _, rfl, ho⟩) (c_ring ho hw (by omega) (by omega) rfl) ?_
          rintro _ _ ⟨rfl, rfl⟩
          refine xw_go xb_25 1 rfl trivial ?_
          refine xw_ret xb_25 rfl rfl trivial ?_
          refine ⟨xm_some (congrArg Value.int ?_), rfl⟩
          simp (disch := omega) only [hk, hr, xl_0, xl_1, xl_2, xl_3, xl_4, xl_5, xl_7, xl_8, xl_9, xl_10, nI_leI, nI_ltI, nI_eq, xu_neg, xu_nneg] at c_17 c_26_0 c_26_1 c_62 c_66
          try simp (disch := omega) only [xl_0, xl_2, xl_4, pk_mul]
          congr 1
          unfold xs_thr
          rw [hfar]
          (repeat' split) <;> omega
        · skip
          refine xw_go xb_25 2 rfl trivial ?_
          refine xw_ret xb_25 rfl rfl trivial ?_
          refine ⟨xm_some (congrArg Value.int ?_), rfl⟩
          simp (disch := omega) only [hk, hr, xl_0, xl_1, xl_2, xl_3, xl_4, xl_5, xl_7, xl_8, xl_9, xl_10, nI_leI, nI_ltI, nI_eq, xu_neg, xu_nneg] at c_17 c_26_0 c_26_1 c_62 c_66
          try simp (disch := omega) only [xl_0, xl_2, xl_4, pk_mul]
          congr 1
          unfold xs_thr
          rw [hfar]
          (repeat' split) <;> omega
    refine xw_if (fun c_26_2 => ?_) (fun c_26_2 => ?_)
    · skip
      refine xw_go xb_25 2 rfl trivial ?_
      refine xw_if (fun c_82 => ?_) (fun c_82 => ?_)
      · skip
        refine xw_go xb_25 1 rfl trivial ?_
        refine xw_ret xb_25 rfl rfl trivial ?_
        refine ⟨xm_some (congrArg Value.int ?_), rfl⟩
        simp (disch := omega) only [hk, hr, xl_0, xl_1, xl_2, xl_3, xl_4, xl_5, xl_7, xl_8, xl_9, xl_10, nI_leI, nI_ltI, nI_eq, xu_neg, xu_nneg] at c_17 c_26_0 c_26_1 c_26_2 c_82
        try simp (disch := omega) only [xl_0, xl_2, xl_4, pk_mul]
        congr 1
        unfold xs_thr
        rw [hfar]
        (repeat' split) <;> omega
      · skip
        refine xw_go xb_25 2 rfl trivial ?_
        refine xw_call xb_25 rfl rfl rfl rfl rfl (Or.inr ⟨_, _, rfl, ho⟩) (c_even ho hw (by omega)) ?_
        rintro _ _ ⟨rfl, rfl⟩
        refine xw_go xb_25 2 rfl trivial ?_
        refine xw_ret xb_25 rfl rfl trivial ?_
        refine ⟨xm_some (congrArg Value.int ?_), rfl⟩
        simp (disch := omega) only [hk, hr, xl_0, xl_1, xl_2, xl_3, xl_4, xl_5, xl_7, xl_8, xl_9, xl_10, nI_leI, nI_ltI, nI_eq, xu_neg, xu_nneg] at c_17 c_26_0 c_26_1 c_26_2 c_82
        try simp (disch := omega) only [xl_0, xl_2, xl_4, pk_mul]
        congr 1
        unfold xs_thr
        rw [hfar]
        (repeat' split) <;> omega
    refine xw_if (fun c_26_3 => ?_) (fun c_26_3 => ?_)
    · skip
      refine xw_go xb_25 4 rfl ⟨?_, trivial⟩ ?_
      · first | decide | skip
      refine xw_cong (st' := [.int (nI (far / 2)), .ref a]) rfl ?_ rfl ?_
      · show [Value.int (nI far / 2), .ref a] = _
        rw [xl_2, xn_div (by omega) (by omega) (by omega)]
      refine xw_call xb_25 rfl rfl rfl rfl rfl (Or.inr ⟨_, _, rfl, ho⟩) (c_ring ho hw (by omega) (by omega) rfl) ?_
      rintro _ _ ⟨rfl, rfl⟩
      refine xw_ret xb_25 rfl rfl trivial ?_
      refine ⟨xm_some (congrArg Value.int ?_), rfl⟩
      simp (disch := omega) only [hk, hr, xl_0, xl_1, xl_2, xl_3, xl_4, xl_5, xl_7, xl_8, xl_9, xl_10, nI_leI, nI_ltI, nI_eq, xu_neg, xu_nneg] at c_17 c_26_0 c_26_1 c_26_2 c_26_3
      try simp (disch := omega) only [xl_0, xl_2, xl_4, pk_mul]
      congr 1
      unfold xs_thr
      rw [hfar]
      (repeat' split) <;> omega
    refine xw_go xb_25 2 rfl trivial ?_
    refine xw_call xb_25 rfl rfl rfl rfl rfl (Or.inr ⟨_, _, rfl, ho⟩) (c_ring ho hw (by omega) (by omega) rfl) ?_
    rintro _ _ ⟨rfl, rfl⟩
    refine xw_ret xb_25 rfl rfl trivial ?_
    refine ⟨xm_some (congrArg Value.int ?_), rfl⟩
    simp (disch := omega) only [hk, hr, xl_0, xl_1, xl_2, xl_3, xl_4, xl_5, xl_7, xl_8, xl_9, xl_10, nI_leI, nI_ltI, nI_eq, xu_neg, xu_nneg] at c_17 c_26_0 c_26_1 c_26_2 c_26_3
    try simp (disch := omega) only [xl_0, xl_2, xl_4, pk_mul]
    congr 1
    unfold xs_thr
    rw [hfar]
    (repeat' split) <;> omega
  · skip
    refine xw_go xb_25 1 rfl trivial ?_
    refine xw_ret xb_25 rfl rfl trivial ?_
    refine ⟨xm_some (congrArg Value.int ?_), rfl⟩
    simp (disch := omega) only [hk, hr, xl_0, xl_1, xl_2, xl_3, xl_4, xl_5, xl_7, xl_8, xl_9, xl_10, nI_leI, nI_ltI, nI_eq, xu_neg, xu_nneg] at c_17
    try simp (disch := omega) only [xl_0, xl_2, xl_4, pk_mul]
    congr 1
    unfold xs_thr
    rw [hfar]
    (repeat' split) <;> omega

theorem c_taken {d : Nat} {S : List (Nat × Nat)} {I : Nat → Nat → Int32} {L : Nat → Nat → Int64} {P : Nat → Nat → Option Nat} {so w : Nat} (b1 : so < 3) (b2 : w < 2 ^ 31) {x1 : Int32} (e_x1 : x1 = nI so) {x2 : Int32} (e_x2 : x2 = nI w) : xm_Z (d + 1) 33 [.int x1, .int x2] (S, I, L, P) (fun rz hz => rz = some (.int (nI (xs_tk so w))) ∧ hz = (S, I, L, P)) := by
  subst e_x2
  subst e_x1
  refine xw_S xb_33 (Nat.le_of_ble_eq_true rfl) rfl ?_
  refine xw_go xb_33 2 rfl trivial ?_
  refine xw_if (fun c_1_0 => ?_) (fun c_1_0 => ?_)
  · skip
    refine xw_go xb_33 3 rfl ⟨Nat.le_of_ble_eq_true rfl, trivial⟩ ?_
    refine xw_ret xb_33 rfl rfl trivial ?_
    refine ⟨xm_some (congrArg Value.int ?_), rfl⟩
    simp (disch := omega) only [xl_0, xl_1, xl_2, xl_3, xl_4, xl_5, xl_7, xl_8, xl_9, xl_10, nI_leI, nI_ltI, nI_eq] at c_1_0
    try simp (disch := omega) only [xl_1, xl_5, xt_min]
    congr 1
    unfold xs_tk
    (repeat' split) <;> omega
  refine xw_if (fun c_1_1 => ?_) (fun c_1_1 => ?_)
  · skip
    refine xw_go xb_33 3 rfl ⟨Nat.le_of_ble_eq_true rfl, trivial⟩ ?_
    refine xw_ret xb_33 rfl rfl trivial ?_
    refine ⟨xm_some (congrArg Value.int ?_), rfl⟩
    simp (disch := omega) only [xl_0, xl_1, xl_2, xl_3, xl_4, xl_5, xl_7, xl_8, xl_9, xl_10, nI_leI, nI_ltI, nI_eq] at c_1_0 c_1_1
    try simp (disch := omega) only [xl_1, xl_5, xt_min]
    congr 1
    unfold xs_tk
    (repeat' split) <;> omega
  refine xw_go xb_33 1 rfl trivial ?_
  refine xw_ret xb_33 rfl rfl trivial ?_
  refine ⟨xm_some (congrArg Value.int ?_), rfl⟩
  simp (disch := omega) only [xl_0, xl_1, xl_2, xl_3, xl_4, xl_5, xl_7, xl_8, xl_9, xl_10, nI_leI, nI_ltI, nI_eq] at c_1_0 c_1_1
  try simp (disch := omega) only [xl_1, xl_5, xt_min]
  congr 1
  unfold xs_tk
  (repeat' split) <;> omega
