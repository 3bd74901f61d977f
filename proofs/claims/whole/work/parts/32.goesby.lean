/-! ===== the model: a minute ===== -/
/-- a minute behind which so much has fallen -/
def xgo (N fv : Nat → Nat) : Nat → Nat := fun k => if 95 ≤ k ∧ k < 95 + xce N then min 9999 (N k + xtk fv (xso N) (N 1) (k - 95)) else if k = 9 then min 999999 (N 9 + xlost fv (xso N) (N 0) (N 1)) else if k = 4 then N 4 + 1 else N k
/-- the row of the model, wet up to a cell -/
def xwr (N fv : Nat → Nat) (g : Nat → Int32) (c : Nat) : Nat → Int32 := fun k => if 95 ≤ k ∧ k < 95 + c then nI (min 9999 (N k + xtk fv (xso N) (N 1) (k - 95))) else g k
theorem xwr_0 (N fv : Nat → Nat) (g : Nat → Int32) : xwr N fv g 0 = g := by
  funext k
  unfold xwr
  rw [if_neg (by omega)]
theorem xwr_up (N fv : Nat → Nat) (g : Nat → Int32) (c : Nat) : va_up (xwr N fv g c) (95 + c) (nI (min 9999 (N (95 + c) + xtk fv (xso N) (N 1) c))) = xwr N fv g (c + 1) := by
  funext k
  unfold va_up xwr
  by_cases hk : k = 95 + c
  · subst hk
    rw [if_pos rfl, if_pos (by omega), show 95 + c - 95 = c by omega]
  · rw [if_neg hk]
    by_cases h1 : 95 ≤ k ∧ k < 95 + c
    · rw [if_pos h1, if_pos (by omega)]
    · rw [if_neg h1, if_neg (by omega)]
theorem xrr_c {fv so : Nat → Nat} {C c : Nat} (hC : 0 < C) {g : Nat → Int32} : xfil C (xrr fv so C (c / C) (c % C + 1)) g = xfil C (xrr fv so C ((c + 1) / C) ((c + 1) % C)) g := by
  have h1 := Nat.div_add_mod c C
  have h2 := Nat.mod_lt c hC
  by_cases h : c % C + 1 < C
  · have h3 : c + 1 = (c / C) * C + (c % C + 1) := by rw [Nat.mul_comm]; omega
    obtain ⟨e1, e2⟩ := xrow_div (r := c / C) h
    rw [h3, e1, e2]
  · have h3 : c + 1 = (c / C + 1) * C + 0 := by rw [Nat.succ_mul, Nat.mul_comm (c / C)]; omega
    obtain ⟨e1, e2⟩ := xrow_div (r := c / C + 1) hC
    rw [h3, e1, e2, show c % C + 1 = C by omega, xrr_end]
theorem xrr_upc {fv so : Nat → Nat} {C r q : Nat} {g : Nat → Int32} (hq : q < C) : va_up (xfil C (xrr fv so C r q) g) q (nI (xro fv so C (r + 1) q)) = xfil C (xrr fv so C r (q + 1)) g := by
  funext j
  by_cases hj : j = q
  · subst hj
    simp only [va_up, if_true, xfil, xrr]
    rw [if_pos hq, if_pos hq, if_pos (by omega)]
  · simp only [va_up, hj, if_false, xfil, xrr]
    by_cases h8 : j < C
    · rw [if_pos h8, if_pos h8, if_pos h8, if_pos h8]
      by_cases h1 : j < q
      · rw [if_pos h1, if_pos (by omega)]
      · rw [if_neg h1, if_neg (by omega)]
    · rw [if_neg h8, if_neg h8]
theorem m_takes2 {d : Nat} {b : Bool} {I : Nat → Nat → Int32} {L : Nat → Nat → Int64} {c w so : Nat} (hs : I 61 (31 + c) = nI so) (bc : c < 64) (bs : so < 3) (bw : w < 2 ^ 31) {x1 : Int32} (e_x1 : x1 = nI c) {x2 : Int32} (e_x2 : x2 = nI w) : xm_Z (d + 1) 124 [.ref 60, .int x1, .int x2] (xS b, I, L, xP b) (fun rz hz => rz = some (.int (nI (xs_tk so w))) ∧ hz = (xS b, I, L, xP b)) := by
  subst e_x1
  subst e_x2
  refine xw_S xb_124 (l := [.ref 60, .int (nI c), .int (nI w), .float 0, .float 0]) (Nat.le_of_ble_eq_true rfl) rfl ?_
  refine xw_go xb_124 7 (f1 := (10, [.ref 60, .int (nI c), .int (nI w), .int (I 61 (31 + (nI c)).toNatClampNeg), .float 0], [])) (h1 := (xS b, I, L, xP b)) rfl ⟨rfl, (by show xm_ar _ 61 0 (31 + nI c); rw [xl_31, nI_add]; exact xn_ar (N := 159) rfl (by omega) (by decide)), trivial⟩ ?_
  refine xw_cong (l' := [.ref 60, .int (nI c), .int (nI w), .int (nI so), .float 0]) (st' := []) (h' := (xS b, I, L, xP b)) (show ([.ref 60, .int (nI c), .int (nI w), .int (I 61 (31 + (nI c)).toNatClampNeg), .float 0] : List Value) = [.ref 60, .int (nI c), .int (nI w), .int (nI so), .float 0] from ?_) rfl rfl ?_
  · rw [xl_31, nI_add, xn_cl (by omega), hs]
  refine xw_go xb_124 2 (f1 := (if ¬ (nI so) = 0 then 18 else 14, [.ref 60, .int (nI c), .int (nI w), .int (nI so), .float 0], [])) (h1 := (xS b, I, L, xP b)) rfl trivial ?_
  refine xw_if (fun c_11 => ?_) (fun c_11 => ?_)
  · skip
    refine xw_go xb_124 3 (f1 := (if ¬ (nI so) = 1 then 27 else 23, [.ref 60, .int (nI c), .int (nI w), .int (nI so), .float 0], [])) (h1 := (xS b, I, L, xP b)) rfl trivial ?_
    refine xw_if (fun c_20 => ?_) (fun c_20 => ?_)
    · skip
      refine xw_go xb_124 5 (f1 := (if 1 ≤ (nI w) then 40 else 36, [.ref 60, .int (nI c), .int (nI w), .int (nI so), .int 1], [])) (h1 := (xS b, I, L, xP b)) rfl trivial ?_
      refine xw_if (fun c_33 => ?_) (fun c_33 => ?_)
      · skip
        refine xw_go xb_124 1 (f1 := (42, [.ref 60, .int (nI c), .int (nI w), .int (nI so), .int 1], [.int 1])) (h1 := (xS b, I, L, xP b)) rfl trivial ?_
        refine xw_ret xb_124 rfl rfl trivial ?_
        refine ⟨xm_some (congrArg Value.int ?_), rfl⟩
        simp (disch := omega) only [xl_0, xl_1, xl_5, nI_leI, nI_ltI, nI_eq] at c_11 c_20 c_33
        unfold xs_tk
        try rw [xl_5]
        try rw [xl_1]
        congr 1
        (repeat' split) <;> omega
      · skip
        refine xw_go xb_124 2 (f1 := (42, [.ref 60, .int (nI c), .int (nI w), .int (nI so), .int 1], [.int (nI w)])) (h1 := (xS b, I, L, xP b)) rfl trivial ?_
        refine xw_ret xb_124 rfl rfl trivial ?_
        refine ⟨xm_some (congrArg Value.int ?_), rfl⟩
        simp (disch := omega) only [xl_0, xl_1, xl_5, nI_leI, nI_ltI, nI_eq] at c_11 c_20 c_33
        unfold xs_tk
        try rw [xl_5]
        try rw [xl_1]
        congr 1
        (repeat' split) <;> omega
    · skip
      refine xw_go xb_124 6 (f1 := (if 5 ≤ (nI w) then 40 else 36, [.ref 60, .int (nI c), .int (nI w), .int (nI so), .int 5], [])) (h1 := (xS b, I, L, xP b)) rfl trivial ?_
      refine xw_if (fun c_33 => ?_) (fun c_33 => ?_)
      · skip
        refine xw_go xb_124 1 (f1 := (42, [.ref 60, .int (nI c), .int (nI w), .int (nI so), .int 5], [.int 5])) (h1 := (xS b, I, L, xP b)) rfl trivial ?_
        refine xw_ret xb_124 rfl rfl trivial ?_
        refine ⟨xm_some (congrArg Value.int ?_), rfl⟩
        simp (disch := omega) only [xl_0, xl_1, xl_5, nI_leI, nI_ltI, nI_eq] at c_11 c_20 c_33
        unfold xs_tk
        try rw [xl_5]
        try rw [xl_1]
        congr 1
        (repeat' split) <;> omega
      · skip
        refine xw_go xb_124 2 (f1 := (42, [.ref 60, .int (nI c), .int (nI w), .int (nI so), .int 5], [.int (nI w)])) (h1 := (xS b, I, L, xP b)) rfl trivial ?_
        refine xw_ret xb_124 rfl rfl trivial ?_
        refine ⟨xm_some (congrArg Value.int ?_), rfl⟩
        simp (disch := omega) only [xl_0, xl_1, xl_5, nI_leI, nI_ltI, nI_eq] at c_11 c_20 c_33
        unfold xs_tk
        try rw [xl_5]
        try rw [xl_1]
        congr 1
        (repeat' split) <;> omega
  · skip
    refine xw_go xb_124 6 (f1 := (if (nI w) ≤ (nI w) then 40 else 36, [.ref 60, .int (nI c), .int (nI w), .int (nI so), .int (nI w)], [])) (h1 := (xS b, I, L, xP b)) rfl trivial ?_
    refine xw_if (fun c_33 => ?_) (fun c_33 => ?_)
    · skip
      refine xw_go xb_124 1 (f1 := (42, [.ref 60, .int (nI c), .int (nI w), .int (nI so), .int (nI w)], [.int (nI w)])) (h1 := (xS b, I, L, xP b)) rfl trivial ?_
      refine xw_ret xb_124 rfl rfl trivial ?_
      refine ⟨xm_some (congrArg Value.int ?_), rfl⟩
      simp (disch := omega) only [xl_0, xl_1, xl_5, nI_leI, nI_ltI, nI_eq] at c_11 c_33
      unfold xs_tk
      try rw [xl_5]
      try rw [xl_1]
      congr 1
      (repeat' split) <;> omega
    · skip
      refine xw_go xb_124 2 (f1 := (42, [.ref 60, .int (nI c), .int (nI w), .int (nI so), .int (nI w)], [.int (nI w)])) (h1 := (xS b, I, L, xP b)) rfl trivial ?_
      refine xw_ret xb_124 rfl rfl trivial ?_
      refine ⟨xm_some (congrArg Value.int ?_), rfl⟩
      simp (disch := omega) only [xl_0, xl_1, xl_5, nI_leI, nI_ltI, nI_eq] at c_11 c_33
      unfold xs_tk
      try rw [xl_5]
      try rw [xl_1]
      congr 1
      (repeat' split) <;> omega

theorem m_cells2 {d : Nat} {b : Bool} {I : Nat → Nat → Int32} {L : Nat → Nat → Int64} {R C : Nat} (h0 : I 61 0 = nI R) (h1 : I 61 1 = nI C) : xm_Z (d + 1) 112 [.ref 60] (xS b, I, L, xP b) (fun rz hz => rz = some (.int (nI (R * C))) ∧ hz = (xS b, I, L, xP b)) := by
  refine xw_S xb_112 (l := [.ref 60]) (Nat.le_of_ble_eq_true rfl) rfl ?_
  refine xw_go xb_112 9 (f1 := (13, [.ref 60], [.int ((I 61 (0 : Int32).toNatClampNeg) * (I 61 (1 : Int32).toNatClampNeg))])) (h1 := (xS b, I, L, xP b)) rfl ⟨rfl, (xn_ar (n := 0) (N := 159) rfl (by decide) (by decide)), rfl, (xn_ar (n := 1) (N := 159) rfl (by decide) (by decide)), trivial⟩ ?_
  refine xw_ret xb_112 rfl rfl trivial ?_
  refine ⟨xm_some (congrArg Value.int ?_), rfl⟩
  rw [show (0 : Int32).toNatClampNeg = 0 from rfl, show (1 : Int32).toNatClampNeg = 1 from rfl, h0, h1, pk_mul]

set_option maxHeartbeats 4000000 in
theorem m_goesBy {d : Nat} {b : Bool} {I : Nat → Nat → Int32} {L : Nat → Nat → Int64} {N : Nat → Nat} (hM : xMN N I) (hO : xOK N) {fv : Nat → Nat} (hf : ∀ j, j < N 0 * N 1 → I 62 j = nI (fv j)) (bf : ∀ j, j < N 0 * N 1 → fv j ≤ 1000) : xm_Z (d + 2) 143 [.ref 60] (xS b, I, L, xP b) (fun rz hz => rz = none ∧ ∃ X Y, hz = (xS b, va_up (va_up I 63 X) 61 Y, L, xP b) ∧ ∀ k, k < 159 → Y k = nI (xgo N fv k)) := by
  have hb := hO.1
  have c64 : N 0 * N 1 ≤ 64 := xce_le hO
  have hN1 : 0 < N 1 := by omega
  have bso := hO.2.1
  have bwt := hO.2.2.1
  have blo : xlost fv (xso N) (N 0) (N 1) ≤ 64000 := by
    have h1 : xlost fv (xso N) (N 0) (N 1) ≤ N 1 * 8000 := by
      refine xsum_le fun q hq => ?_
      have := xro_le (so := xso N) (R := N 0) (C := N 1) (M := 1000) bf (N 0) q (Nat.le_refl _) hq
      have h2 : N 0 * 1000 ≤ 8 * 1000 := Nat.mul_le_mul_right 1000 (by omega)
      omega
    have h3 : N 1 * 8000 ≤ 8 * 8000 := Nat.mul_le_mul_right 8000 (by omega)
    omega
  refine xw_S xb_143 (l := [.ref 60, .float 0, .float 0, .float 0, .float 0, .float 0]) (Nat.le_of_ble_eq_true rfl) rfl ?_
  refine xw_go xb_143 7 (f1 := (9, [.ref 60, .int (I 61 (1 : Int32).toNatClampNeg), .int 0, .float 0, .float 0, .float 0], [])) (h1 := (xS b, I, L, xP b)) rfl ⟨rfl, (xn_ar (n := 1) (N := 159) rfl (by decide) (by decide)), trivial⟩ ?_
  refine xw_cong (l' := [.ref 60, .int (nI (N 1)), .int 0, .float 0, .float 0, .float 0]) (st' := []) (h' := (xS b, I, L, xP b)) (show ([.ref 60, .int (I 61 (1 : Int32).toNatClampNeg), .int 0, .float 0, .float 0, .float 0] : List Value) = [.ref 60, .int (nI (N 1)), .int 0, .float 0, .float 0, .float 0] from ?_) rfl rfl ?_
  · rw [show (1 : Int32).toNatClampNeg = 1 from rfl, hM 1 (by decide)]
  refine xw_at (f' := (9, [.ref 60, .int (nI (N 1)), .int (nI 0), .float 0, .float 0, .float 0], [])) (h' := (xS b, va_up I 63 (xfil 0 (fun _ => 0) (I 63)), L, xP b)) rfl (by rw [xfil_0, xm_up_id]) ?_
  refine xw_loop (N 1) (fun k => (9, [.ref 60, .int (nI (N 1)), .int (nI k), .float 0, .float 0, .float 0], [])) (fun k => (xS b, va_up I 63 (xfil k (fun _ => 0) (I 63)), L, xP b)) (fun k hk ih => ?_) ?_ 0 (Nat.zero_le _)
  · skip
    refine xw_go xb_143 3 (f1 := (if (nI (N 1)) ≤ (nI k) then 27 else 14, [.ref 60, .int (nI (N 1)), .int (nI k), .float 0, .float 0, .float 0], [])) (h1 := (xS b, va_up I 63 (xfil k (fun _ => 0) (I 63)), L, xP b)) rfl trivial ?_
    refine xw_if (fun c_11 => ?_) (fun c_11 => ?_)
    · skip
      exfalso
      simp (disch := omega) only [nI_leI, nI_ltI] at c_11
      omega
    · skip
      refine xw_go xb_143 7 (f1 := (9, [.ref 60, .int (nI (N 1)), .int ((nI k) + 1), .float 0, .float 0, .float 0], [])) (h1 := (xS b, xm_up (va_up I 63 (xfil k (fun _ => 0) (I 63))) 63 (nI k).toNatClampNeg 0, L, xP b)) rfl ⟨rfl, (xn_ar (n := k) (N := 8) rfl (by omega) (by decide)), trivial⟩ ?_
      refine xw_cong ?_ rfl ?_ ih
      · rw [nI_1]
      · rw [xn_cl (by omega), xfil_up _ _ _ _ _ rfl]
  · skip
    refine xw_go xb_143 3 (f1 := (if (nI (N 1)) ≤ (nI (N 1)) then 27 else 14, [.ref 60, .int (nI (N 1)), .int (nI (N 1)), .float 0, .float 0, .float 0], [])) (h1 := (xS b, va_up I 63 (xfil (N 1) (fun _ => 0) (I 63)), L, xP b)) rfl trivial ?_
    refine xw_if (fun c_11 => ?_) (fun c_11 => ?_)
    · skip
      refine xw_go xb_143 2 (f1 := (29, [.ref 60, .int (nI (N 1)), .int 0, .float 0, .float 0, .float 0], [])) (h1 := (xS b, va_up I 63 (xfil (N 1) (fun _ => 0) (I 63)), L, xP b)) rfl trivial ?_
      refine xw_at (f' := (29, [.ref 60, .int (nI (N 1)), .int (nI 0), .float 0, .float 0, .float 0], [])) (h' := (xS b, va_up (va_up I 63 (xfil (N 1) (xrr fv (xso N) (N 1) (0 / N 1) (0 % N 1)) (I 63))) 61 (xwr N fv (I 61) 0), L, xP b)) rfl (by rw [xwr_0, Nat.zero_div, Nat.zero_mod, xrr_0]; show _ = (xS b, va_up (va_up I 63 (xfil (N 1) (fun _ => 0) (I 63))) 61 (va_up I 63 (xfil (N 1) (fun _ => 0) (I 63)) 61), L, xP b); rw [xm_up_id]) ?_
      refine xw_loop (N 0 * N 1) (fun c => (29, [.ref 60, .int (nI (N 1)), .int (nI c), .float 0, .float 0, .float 0], [])) (fun c => (xS b, va_up (va_up I 63 (xfil (N 1) (xrr fv (xso N) (N 1) (c / N 1) (c % N 1)) (I 63))) 61 (xwr N fv (I 61) c), L, xP b)) (fun c hc ih => ?_) ?_ 0 (Nat.zero_le _)
      · have q1 : c / N 1 < N 0 := (Nat.div_lt_iff_lt_mul hN1).mpr hc
        have q2 := Nat.mod_lt c hN1
        have f1 := bf c hc
        have f2 := xro_le (so := xso N) (R := N 0) (C := N 1) (M := 1000) bf (c / N 1) (c % N 1) (by omega) q2
        have f4 : c / N 1 * 1000 ≤ 8 * 1000 := Nat.mul_le_mul_right 1000 (by omega)
        obtain ⟨wat, hwat⟩ : ∃ wat, fv c + xro fv (xso N) (N 1) (c / N 1) (c % N 1) = wat := ⟨_, rfl⟩
        have f3 := xs_tk_le (N (31 + c)) wat
        have f5 := bwt c (by omega)
        have etk : xtk fv (xso N) (N 1) c = xs_tk (N (31 + c)) wat := by unfold xtk; rw [hwat]; rfl
        have ero : xro fv (xso N) (N 1) (c / N 1 + 1) (c % N 1) = wat - xs_tk (N (31 + c)) wat := by
          have e : c / N 1 * N 1 + c % N 1 = c := by rw [Nat.mul_comm]; exact Nat.div_add_mod c (N 1)
          simp only [xro]
          rw [e, hwat]
          rfl
        refine xw_go xb_143 2 (f1 := (31, [.ref 60, .int (nI (N 1)), .int (nI c), .float 0, .float 0, .float 0], [.ref 60, .int (nI c)])) (h1 := (xS b, va_up (va_up I 63 (xfil (N 1) (xrr fv (xso N) (N 1) (c / N 1) (c % N 1)) (I 63))) 61 (xwr N fv (I 61) c), L, xP b)) rfl trivial ?_
        refine xw_call xb_143 rfl rfl rfl rfl rfl (Or.inr ⟨_, _, rfl, rfl⟩) (m_cells2 (I := (va_up (va_up I 63 (xfil (N 1) (xrr fv (xso N) (N 1) (c / N 1) (c % N 1)) (I 63))) 61 (xwr N fv (I 61) c))) (R := N 0) (C := N 1) (hM 0 (by decide)) (hM 1 (by decide))) ?_
        rintro _ _ ⟨rfl, rfl⟩
        refine xw_at (f' := (34, [.ref 60, .int (nI (N 1)), .int (nI c), .float 0, .float 0, .float 0], [.int (nI (N 0 * N 1)), .int (nI c)])) (h' := (xS b, va_up (va_up I 63 (xfil (N 1) (xrr fv (xso N) (N 1) (c / N 1) (c % N 1)) (I 63))) 61 (xwr N fv (I 61) c), L, xP b)) rfl rfl ?_
        refine xw_go xb_143 1 (f1 := (if (nI (N 0 * N 1)) ≤ (nI c) then 118 else 37, [.ref 60, .int (nI (N 1)), .int (nI c), .float 0, .float 0, .float 0], [])) (h1 := (xS b, va_up (va_up I 63 (xfil (N 1) (xrr fv (xso N) (N 1) (c / N 1) (c % N 1)) (I 63))) 61 (xwr N fv (I 61) c), L, xP b)) rfl trivial ?_
        refine xw_if (fun c_34 => ?_) (fun c_34 => ?_)
        · skip
          exfalso
          simp (disch := omega) only [nI_leI, nI_ltI] at c_34
          omega
        · skip
          refine xw_go xb_143 9 (f1 := (50, [.ref 60, .int (nI (N 1)), .int (nI c), .float 0, .float 0, .float 0], [.int ((nI c) - (nI c) / (nI (N 1)) * (nI (N 1))), .ref 63, .int ((va_up (va_up I 63 (xfil (N 1) (xrr fv (xso N) (N 1) (c / N 1) (c % N 1)) (I 63))) 61 (xwr N fv (I 61) c)) 62 (nI c).toNatClampNeg)])) (h1 := (xS b, va_up (va_up I 63 (xfil (N 1) (xrr fv (xso N) (N 1) (c / N 1) (c % N 1)) (I 63))) 61 (xwr N fv (I 61) c), L, xP b)) rfl ⟨rfl, (xn_ar (n := c) (N := 64) rfl (by omega) (by decide)), rfl, (xn_ne (by omega) (by omega)), trivial⟩ ?_
          refine xw_cong (l' := [.ref 60, .int (nI (N 1)), .int (nI c), .float 0, .float 0, .float 0]) (st' := [.int (nI (c % N 1)), .ref 63, .int ((va_up (va_up I 63 (xfil (N 1) (xrr fv (xso N) (N 1) (c / N 1) (c % N 1)) (I 63))) 61 (xwr N fv (I 61) c)) 62 (nI c).toNatClampNeg)]) (h' := (xS b, va_up (va_up I 63 (xfil (N 1) (xrr fv (xso N) (N 1) (c / N 1) (c % N 1)) (I 63))) 61 (xwr N fv (I 61) c), L, xP b)) rfl (show ([.int ((nI c) - (nI c) / (nI (N 1)) * (nI (N 1))), .ref 63, .int ((va_up (va_up I 63 (xfil (N 1) (xrr fv (xso N) (N 1) (c / N 1) (c % N 1)) (I 63))) 61 (xwr N fv (I 61) c)) 62 (nI c).toNatClampNeg)] : List Value) = [.int (nI (c % N 1)), .ref 63, .int ((va_up (va_up I 63 (xfil (N 1) (xrr fv (xso N) (N 1) (c / N 1) (c % N 1)) (I 63))) 61 (xwr N fv (I 61) c)) 62 (nI c).toNatClampNeg)] from ?_) rfl ?_
          · rw [xn_rem (by omega) (by omega) (by omega)]
          refine xw_go xb_143 3 (f1 := (53, [.ref 60, .int (nI (N 1)), .int (nI c), .int (((va_up (va_up I 63 (xfil (N 1) (xrr fv (xso N) (N 1) (c / N 1) (c % N 1)) (I 63))) 61 (xwr N fv (I 61) c)) 62 (nI c).toNatClampNeg) + ((va_up (va_up I 63 (xfil (N 1) (xrr fv (xso N) (N 1) (c / N 1) (c % N 1)) (I 63))) 61 (xwr N fv (I 61) c)) 63 (nI (c % N 1)).toNatClampNeg)), .float 0, .float 0], [])) (h1 := (xS b, va_up (va_up I 63 (xfil (N 1) (xrr fv (xso N) (N 1) (c / N 1) (c % N 1)) (I 63))) 61 (xwr N fv (I 61) c), L, xP b)) rfl ⟨(xn_ar (n := (c % N 1)) (N := 8) rfl (by omega) (by decide)), trivial⟩ ?_
          refine xw_cong (l' := [.ref 60, .int (nI (N 1)), .int (nI c), .int (nI wat), .float 0, .float 0]) (st' := []) (h' := (xS b, va_up (va_up I 63 (xfil (N 1) (xrr fv (xso N) (N 1) (c / N 1) (c % N 1)) (I 63))) 61 (xwr N fv (I 61) c), L, xP b)) (show ([.ref 60, .int (nI (N 1)), .int (nI c), .int (((va_up (va_up I 63 (xfil (N 1) (xrr fv (xso N) (N 1) (c / N 1) (c % N 1)) (I 63))) 61 (xwr N fv (I 61) c)) 62 (nI c).toNatClampNeg) + ((va_up (va_up I 63 (xfil (N 1) (xrr fv (xso N) (N 1) (c / N 1) (c % N 1)) (I 63))) 61 (xwr N fv (I 61) c)) 63 (nI (c % N 1)).toNatClampNeg)), .float 0, .float 0] : List Value) = [.ref 60, .int (nI (N 1)), .int (nI c), .int (nI wat), .float 0, .float 0] from ?_) rfl rfl ?_
          · rw [xn_cl (by omega), xn_cl (by omega)]
            show [Value.ref 60, _, _, .int (I 62 c + xfil (N 1) (xrr fv (xso N) (N 1) (c / N 1) (c % N 1)) (I 63) (c % N 1)), _, _] = _
            have e : xfil (N 1) (xrr fv (xso N) (N 1) (c / N 1) (c % N 1)) (I 63) (c % N 1) = nI (xro fv (xso N) (N 1) (c / N 1) (c % N 1)) := by
              simp only [xfil, xrr]
              rw [if_pos q2, if_pos q2, if_neg (by omega)]
            rw [e, hf c hc, nI_add, hwat]
          refine xw_go xb_143 3 (f1 := (56, [.ref 60, .int (nI (N 1)), .int (nI c), .int (nI wat), .float 0, .float 0], [.int (nI wat), .int (nI c), .ref 60])) (h1 := (xS b, va_up (va_up I 63 (xfil (N 1) (xrr fv (xso N) (N 1) (c / N 1) (c % N 1)) (I 63))) 61 (xwr N fv (I 61) c), L, xP b)) rfl trivial ?_
          refine xw_call xb_143 rfl rfl rfl rfl rfl (Or.inr ⟨_, _, rfl, rfl⟩) (m_takes2 (I := (va_up (va_up I 63 (xfil (N 1) (xrr fv (xso N) (N 1) (c / N 1) (c % N 1)) (I 63))) 61 (xwr N fv (I 61) c))) (so := N (31 + c)) (w := wat) (by show xwr N fv (I 61) c (31 + c) = _; unfold xwr; rw [if_neg (by omega)]; exact hM _ (by omega)) (by omega) (bso c (by omega)) (by omega) rfl rfl) ?_
          rintro _ _ ⟨rfl, rfl⟩
          refine xw_at (f' := (59, [.ref 60, .int (nI (N 1)), .int (nI c), .int (nI wat), .float 0, .float 0], [.int (nI (xs_tk (N (31 + c)) wat))])) (h' := (xS b, va_up (va_up I 63 (xfil (N 1) (xrr fv (xso N) (N 1) (c / N 1) (c % N 1)) (I 63))) 61 (xwr N fv (I 61) c), L, xP b)) rfl rfl ?_
          refine xw_go xb_143 10 (f1 := (75, [.ref 60, .int (nI (N 1)), .int (nI c), .int (nI wat), .int (nI (xs_tk (N (31 + c)) wat)), .int (((va_up (va_up I 63 (xfil (N 1) (xrr fv (xso N) (N 1) (c / N 1) (c % N 1)) (I 63))) 61 (xwr N fv (I 61) c)) 61 (95 + (nI c)).toNatClampNeg) + (nI (xs_tk (N (31 + c)) wat)))], [])) (h1 := (xS b, va_up (va_up I 63 (xfil (N 1) (xrr fv (xso N) (N 1) (c / N 1) (c % N 1)) (I 63))) 61 (xwr N fv (I 61) c), L, xP b)) rfl ⟨rfl, (by show xm_ar _ 61 0 (95 + nI c); rw [xl_95, nI_add]; exact xn_ar (N := 159) rfl (by omega) (by decide)), trivial⟩ ?_
          refine xw_cong (l' := [.ref 60, .int (nI (N 1)), .int (nI c), .int (nI wat), .int (nI (xs_tk (N (31 + c)) wat)), .int (nI (N (95 + c) + xs_tk (N (31 + c)) wat))]) (st' := []) (h' := (xS b, va_up (va_up I 63 (xfil (N 1) (xrr fv (xso N) (N 1) (c / N 1) (c % N 1)) (I 63))) 61 (xwr N fv (I 61) c), L, xP b)) (show ([.ref 60, .int (nI (N 1)), .int (nI c), .int (nI wat), .int (nI (xs_tk (N (31 + c)) wat)), .int (((va_up (va_up I 63 (xfil (N 1) (xrr fv (xso N) (N 1) (c / N 1) (c % N 1)) (I 63))) 61 (xwr N fv (I 61) c)) 61 (95 + (nI c)).toNatClampNeg) + (nI (xs_tk (N (31 + c)) wat)))] : List Value) = [.ref 60, .int (nI (N 1)), .int (nI c), .int (nI wat), .int (nI (xs_tk (N (31 + c)) wat)), .int (nI (N (95 + c) + xs_tk (N (31 + c)) wat))] from ?_) rfl rfl ?_
          · rw [xl_95, nI_add, xn_cl (by omega)]
            show [Value.ref 60, _, _, _, _, .int (xwr N fv (I 61) c (95 + c) + nI (xs_tk (N (31 + c)) wat))] = _
            have e : xwr N fv (I 61) c (95 + c) = nI (N (95 + c)) := by
              unfold xwr
              rw [if_neg (by omega)]
              exact hM _ (by omega)
            rw [e, nI_add]
          refine xw_go xb_143 8 (f1 := (if (nI (N (95 + c) + xs_tk (N (31 + c)) wat)) ≤ 9999 then 97 else 91, [.ref 60, .int (nI (N 1)), .int (nI c), .int (nI wat), .int (nI (xs_tk (N (31 + c)) wat)), .int (nI (N (95 + c) + xs_tk (N (31 + c)) wat))], [.int (95 + (nI c)), .ref 61])) (h1 := (xS b, va_up (va_up I 63 (xfil (N 1) (xrr fv (xso N) (N 1) (c / N 1) (c % N 1)) (I 63))) 61 (xwr N fv (I 61) c), L, xP b)) rfl ⟨rfl, trivial⟩ ?_
          refine xw_if (fun c_88 => ?_) (fun c_88 => ?_)
          · skip
            refine xw_go xb_143 2 (f1 := (100, [.ref 60, .int (nI (N 1)), .int (nI c), .int (nI wat), .int (nI (xs_tk (N (31 + c)) wat)), .int (nI (N (95 + c) + xs_tk (N (31 + c)) wat))], [])) (h1 := (xS b, xm_up (va_up (va_up I 63 (xfil (N 1) (xrr fv (xso N) (N 1) (c / N 1) (c % N 1)) (I 63))) 61 (xwr N fv (I 61) c)) 61 (95 + (nI c)).toNatClampNeg (nI (N (95 + c) + xs_tk (N (31 + c)) wat)), L, xP b)) rfl ⟨(by show xm_ar _ 61 0 (95 + nI c); rw [xl_95, nI_add]; exact xn_ar (N := 159) rfl (by omega) (by decide)), trivial⟩ ?_
            refine xw_at (f' := (100, [.ref 60, .int (nI (N 1)), .int (nI c), .int (nI wat), .int (nI (xs_tk (N (31 + c)) wat)), .int (nI (N (95 + c) + xs_tk (N (31 + c)) wat))], [])) (h' := (xS b, va_up (va_up I 63 (xfil (N 1) (xrr fv (xso N) (N 1) (c / N 1) (c % N 1)) (I 63))) 61 (xwr N fv (I 61) (c + 1)), L, xP b)) rfl (show (xS b, xm_up (va_up (va_up I 63 (xfil (N 1) (xrr fv (xso N) (N 1) (c / N 1) (c % N 1)) (I 63))) 61 (xwr N fv (I 61) c)) 61 (95 + (nI c)).toNatClampNeg (nI (N (95 + c) + xs_tk (N (31 + c)) wat)), L, xP b) = (xS b, va_up (va_up I 63 (xfil (N 1) (xrr fv (xso N) (N 1) (c / N 1) (c % N 1)) (I 63))) 61 (xwr N fv (I 61) (c + 1)), L, xP b) from ?_) ?_
            · rw [xl_95, nI_add, xn_cl (by omega), xup_s]
              simp (disch := omega) only [xl_9999, nI_leI] at c_88
              rw [← xwr_up, etk]
              first | rw [xl_9999, show min 9999 (N (95 + c) + xs_tk (N (31 + c)) wat) = 9999 by omega] | rw [show min 9999 (N (95 + c) + xs_tk (N (31 + c)) wat) = N (95 + c) + xs_tk (N (31 + c)) wat by omega]
            refine xw_go xb_143 5 (f1 := (107, [.ref 60, .int (nI (N 1)), .int (nI c), .int (nI wat), .int (nI (xs_tk (N (31 + c)) wat)), .int (nI (N (95 + c) + xs_tk (N (31 + c)) wat))], [.int ((nI c) - (nI c) / (nI (N 1)) * (nI (N 1))), .ref 63])) (h1 := (xS b, va_up (va_up I 63 (xfil (N 1) (xrr fv (xso N) (N 1) (c / N 1) (c % N 1)) (I 63))) 61 (xwr N fv (I 61) (c + 1)), L, xP b)) rfl ⟨rfl, (xn_ne (by omega) (by omega)), trivial⟩ ?_
            refine xw_cong (l' := [.ref 60, .int (nI (N 1)), .int (nI c), .int (nI wat), .int (nI (xs_tk (N (31 + c)) wat)), .int (nI (N (95 + c) + xs_tk (N (31 + c)) wat))]) (st' := [.int (nI (c % N 1)), .ref 63]) (h' := (xS b, va_up (va_up I 63 (xfil (N 1) (xrr fv (xso N) (N 1) (c / N 1) (c % N 1)) (I 63))) 61 (xwr N fv (I 61) (c + 1)), L, xP b)) rfl (show ([.int ((nI c) - (nI c) / (nI (N 1)) * (nI (N 1))), .ref 63] : List Value) = [.int (nI (c % N 1)), .ref 63] from ?_) rfl ?_
            · rw [xn_rem (by omega) (by omega) (by omega)]
            refine xw_go xb_143 6 (f1 := (29, [.ref 60, .int (nI (N 1)), .int ((nI c) + 1), .int (nI wat), .int (nI (xs_tk (N (31 + c)) wat)), .int (nI (N (95 + c) + xs_tk (N (31 + c)) wat))], [])) (h1 := (xS b, xm_up (va_up (va_up I 63 (xfil (N 1) (xrr fv (xso N) (N 1) (c / N 1) (c % N 1)) (I 63))) 61 (xwr N fv (I 61) (c + 1))) 63 (nI (c % N 1)).toNatClampNeg ((nI wat) - (nI (xs_tk (N (31 + c)) wat))), L, xP b)) rfl ⟨(xn_ar (n := (c % N 1)) (N := 8) rfl (by omega) (by decide)), trivial⟩ ?_
            refine xw_cong ?_ rfl ?_ (xw_fg (l0 := [.ref 60, .int (nI (N 1)), .int (nI (c + 1)), .float 0, .float 0, .float 0]) ⟨Or.inr rfl, Or.inr rfl, Or.inr rfl, Or.inl rfl, Or.inl rfl, Or.inl rfl, trivial⟩ ih) (l' := [.ref 60, .int (nI (N 1)), .int (nI (c + 1)), .int (nI wat), .int (nI (xs_tk (N (31 + c)) wat)), .int (nI (N (95 + c) + xs_tk (N (31 + c)) wat))])
            · rw [nI_1]
            · rw [xn_cl (by omega), xn_sub f3, xup_c (by decide), xup_s, ← ero, xrr_upc q2, xrr_c hN1]
          · skip
            refine xw_go xb_143 3 (f1 := (100, [.ref 60, .int (nI (N 1)), .int (nI c), .int (nI wat), .int (nI (xs_tk (N (31 + c)) wat)), .int (nI (N (95 + c) + xs_tk (N (31 + c)) wat))], [])) (h1 := (xS b, xm_up (va_up (va_up I 63 (xfil (N 1) (xrr fv (xso N) (N 1) (c / N 1) (c % N 1)) (I 63))) 61 (xwr N fv (I 61) c)) 61 (95 + (nI c)).toNatClampNeg 9999, L, xP b)) rfl ⟨(by show xm_ar _ 61 0 (95 + nI c); rw [xl_95, nI_add]; exact xn_ar (N := 159) rfl (by omega) (by decide)), trivial⟩ ?_
            refine xw_at (f' := (100, [.ref 60, .int (nI (N 1)), .int (nI c), .int (nI wat), .int (nI (xs_tk (N (31 + c)) wat)), .int (nI (N (95 + c) + xs_tk (N (31 + c)) wat))], [])) (h' := (xS b, va_up (va_up I 63 (xfil (N 1) (xrr fv (xso N) (N 1) (c / N 1) (c % N 1)) (I 63))) 61 (xwr N fv (I 61) (c + 1)), L, xP b)) rfl (show (xS b, xm_up (va_up (va_up I 63 (xfil (N 1) (xrr fv (xso N) (N 1) (c / N 1) (c % N 1)) (I 63))) 61 (xwr N fv (I 61) c)) 61 (95 + (nI c)).toNatClampNeg 9999, L, xP b) = (xS b, va_up (va_up I 63 (xfil (N 1) (xrr fv (xso N) (N 1) (c / N 1) (c % N 1)) (I 63))) 61 (xwr N fv (I 61) (c + 1)), L, xP b) from ?_) ?_
            · rw [xl_95, nI_add, xn_cl (by omega), xup_s]
              simp (disch := omega) only [xl_9999, nI_leI] at c_88
              rw [← xwr_up, etk]
              first | rw [xl_9999, show min 9999 (N (95 + c) + xs_tk (N (31 + c)) wat) = 9999 by omega] | rw [show min 9999 (N (95 + c) + xs_tk (N (31 + c)) wat) = N (95 + c) + xs_tk (N (31 + c)) wat by omega]
            refine xw_go xb_143 5 (f1 := (107, [.ref 60, .int (nI (N 1)), .int (nI c), .int (nI wat), .int (nI (xs_tk (N (31 + c)) wat)), .int (nI (N (95 + c) + xs_tk (N (31 + c)) wat))], [.int ((nI c) - (nI c) / (nI (N 1)) * (nI (N 1))), .ref 63])) (h1 := (xS b, va_up (va_up I 63 (xfil (N 1) (xrr fv (xso N) (N 1) (c / N 1) (c % N 1)) (I 63))) 61 (xwr N fv (I 61) (c + 1)), L, xP b)) rfl ⟨rfl, (xn_ne (by omega) (by omega)), trivial⟩ ?_
            refine xw_cong (l' := [.ref 60, .int (nI (N 1)), .int (nI c), .int (nI wat), .int (nI (xs_tk (N (31 + c)) wat)), .int (nI (N (95 + c) + xs_tk (N (31 + c)) wat))]) (st' := [.int (nI (c % N 1)), .ref 63]) (h' := (xS b, va_up (va_up I 63 (xfil (N 1) (xrr fv (xso N) (N 1) (c / N 1) (c % N 1)) (I 63))) 61 (xwr N fv (I 61) (c + 1)), L, xP b)) rfl (show ([.int ((nI c) - (nI c) / (nI (N 1)) * (nI (N 1))), .ref 63] : List Value) = [.int (nI (c % N 1)), .ref 63] from ?_) rfl ?_
            · rw [xn_rem (by omega) (by omega) (by omega)]
            refine xw_go xb_143 6 (f1 := (29, [.ref 60, .int (nI (N 1)), .int ((nI c) + 1), .int (nI wat), .int (nI (xs_tk (N (31 + c)) wat)), .int (nI (N (95 + c) + xs_tk (N (31 + c)) wat))], [])) (h1 := (xS b, xm_up (va_up (va_up I 63 (xfil (N 1) (xrr fv (xso N) (N 1) (c / N 1) (c % N 1)) (I 63))) 61 (xwr N fv (I 61) (c + 1))) 63 (nI (c % N 1)).toNatClampNeg ((nI wat) - (nI (xs_tk (N (31 + c)) wat))), L, xP b)) rfl ⟨(xn_ar (n := (c % N 1)) (N := 8) rfl (by omega) (by decide)), trivial⟩ ?_
            refine xw_cong ?_ rfl ?_ (xw_fg (l0 := [.ref 60, .int (nI (N 1)), .int (nI (c + 1)), .float 0, .float 0, .float 0]) ⟨Or.inr rfl, Or.inr rfl, Or.inr rfl, Or.inl rfl, Or.inl rfl, Or.inl rfl, trivial⟩ ih) (l' := [.ref 60, .int (nI (N 1)), .int (nI (c + 1)), .int (nI wat), .int (nI (xs_tk (N (31 + c)) wat)), .int (nI (N (95 + c) + xs_tk (N (31 + c)) wat))])
            · rw [nI_1]
            · rw [xn_cl (by omega), xn_sub f3, xup_c (by decide), xup_s, ← ero, xrr_upc q2, xrr_c hN1]
      · skip
        refine xw_go xb_143 2 (f1 := (31, [.ref 60, .int (nI (N 1)), .int (nI (N 0 * N 1)), .float 0, .float 0, .float 0], [.ref 60, .int (nI (N 0 * N 1))])) (h1 := (xS b, va_up (va_up I 63 (xfil (N 1) (xrr fv (xso N) (N 1) ((N 0 * N 1) / N 1) ((N 0 * N 1) % N 1)) (I 63))) 61 (xwr N fv (I 61) (N 0 * N 1)), L, xP b)) rfl trivial ?_
        refine xw_call xb_143 rfl rfl rfl rfl rfl (Or.inr ⟨_, _, rfl, rfl⟩) (m_cells2 (I := (va_up (va_up I 63 (xfil (N 1) (xrr fv (xso N) (N 1) ((N 0 * N 1) / N 1) ((N 0 * N 1) % N 1)) (I 63))) 61 (xwr N fv (I 61) (N 0 * N 1)))) (R := N 0) (C := N 1) (hM 0 (by decide)) (hM 1 (by decide))) ?_
        rintro _ _ ⟨rfl, rfl⟩
        refine xw_at (f' := (34, [.ref 60, .int (nI (N 1)), .int (nI (N 0 * N 1)), .float 0, .float 0, .float 0], [.int (nI (N 0 * N 1)), .int (nI (N 0 * N 1))])) (h' := (xS b, va_up (va_up I 63 (xfil (N 1) (xrr fv (xso N) (N 1) ((N 0 * N 1) / N 1) ((N 0 * N 1) % N 1)) (I 63))) 61 (xwr N fv (I 61) (N 0 * N 1)), L, xP b)) rfl rfl ?_
        refine xw_go xb_143 1 (f1 := (if (nI (N 0 * N 1)) ≤ (nI (N 0 * N 1)) then 118 else 37, [.ref 60, .int (nI (N 1)), .int (nI (N 0 * N 1)), .float 0, .float 0, .float 0], [])) (h1 := (xS b, va_up (va_up I 63 (xfil (N 1) (xrr fv (xso N) (N 1) ((N 0 * N 1) / N 1) ((N 0 * N 1) % N 1)) (I 63))) 61 (xwr N fv (I 61) (N 0 * N 1)), L, xP b)) rfl trivial ?_
        refine xw_if (fun c_34 => ?_) (fun c_34 => ?_)
        · skip
          refine xw_go xb_143 2 (f1 := (120, [.ref 60, .int (nI (N 1)), .int 0, .float 0, .float 0, .float 0], [])) (h1 := (xS b, va_up (va_up I 63 (xfil (N 1) (xrr fv (xso N) (N 1) ((N 0 * N 1) / N 1) ((N 0 * N 1) % N 1)) (I 63))) 61 (xwr N fv (I 61) (N 0 * N 1)), L, xP b)) rfl trivial ?_
          obtain ⟨e1, e2⟩ := xrow_div (r := N 0) hN1
          rw [Nat.add_zero] at e1 e2
          refine xw_at (f' := (120, [.ref 60, .int (nI (N 1)), .int (nI 0), .float 0, .float 0, .float 0], [])) (h' := (xS b, va_up (va_up I 63 (xfil (N 1) (xrr fv (xso N) (N 1) (N 0) 0) (I 63))) 61 (va_up (xwr N fv (I 61) (N 0 * N 1)) 9 (nI (N 9 + xsum (fun q => xro fv (xso N) (N 1) (N 0) q) 0))), L, xP b)) rfl (by rw [e1, e2]; refine congrArg (fun X => (xS b, va_up (va_up I 63 (xfil (N 1) (xrr fv (xso N) (N 1) (N 0) 0) (I 63))) 61 X, L, xP b)) ?_; show _ = va_up (xwr N fv (I 61) (N 0 * N 1)) 9 (nI (N 9)); rw [← hM 9 (by decide)]; exact (xm_up_id (xwr N fv (I 61) (N 0 * N 1)) 9).symm) ?_
          refine xw_loop (N 1) (fun k => (120, [.ref 60, .int (nI (N 1)), .int (nI k), .float 0, .float 0, .float 0], [])) (fun k => (xS b, va_up (va_up I 63 (xfil (N 1) (xrr fv (xso N) (N 1) (N 0) 0) (I 63))) 61 (va_up (xwr N fv (I 61) (N 0 * N 1)) 9 (nI (N 9 + xsum (fun q => xro fv (xso N) (N 1) (N 0) q) k))), L, xP b)) (fun k hk ih => ?_) ?_ 0 (Nat.zero_le _)
          · skip
            refine xw_go xb_143 3 (f1 := (if (nI (N 1)) ≤ (nI k) then 147 else 125, [.ref 60, .int (nI (N 1)), .int (nI k), .float 0, .float 0, .float 0], [])) (h1 := (xS b, va_up (va_up I 63 (xfil (N 1) (xrr fv (xso N) (N 1) (N 0) 0) (I 63))) 61 (va_up (xwr N fv (I 61) (N 0 * N 1)) 9 (nI (N 9 + xsum (fun q => xro fv (xso N) (N 1) (N 0) q) k))), L, xP b)) rfl trivial ?_
            refine xw_if (fun c_122 => ?_) (fun c_122 => ?_)
            · skip
              exfalso
              simp (disch := omega) only [nI_leI, nI_ltI] at c_122
              omega
            · skip
              refine xw_go xb_143 13 (f1 := (120, [.ref 60, .int (nI (N 1)), .int ((nI k) + 1), .float 0, .float 0, .float 0], [])) (h1 := (xS b, xm_up (va_up (va_up I 63 (xfil (N 1) (xrr fv (xso N) (N 1) (N 0) 0) (I 63))) 61 (va_up (xwr N fv (I 61) (N 0 * N 1)) 9 (nI (N 9 + xsum (fun q => xro fv (xso N) (N 1) (N 0) q) k)))) 61 (9 : Int32).toNatClampNeg (((va_up (va_up I 63 (xfil (N 1) (xrr fv (xso N) (N 1) (N 0) 0) (I 63))) 61 (va_up (xwr N fv (I 61) (N 0 * N 1)) 9 (nI (N 9 + xsum (fun q => xro fv (xso N) (N 1) (N 0) q) k)))) 61 (9 : Int32).toNatClampNeg) + ((va_up (va_up I 63 (xfil (N 1) (xrr fv (xso N) (N 1) (N 0) 0) (I 63))) 61 (va_up (xwr N fv (I 61) (N 0 * N 1)) 9 (nI (N 9 + xsum (fun q => xro fv (xso N) (N 1) (N 0) q) k)))) 63 (nI k).toNatClampNeg)), L, xP b)) rfl ⟨rfl, (xn_ar (n := 9) (N := 159) rfl (by decide) (by decide)), rfl, (xn_ar (n := k) (N := 8) rfl (by omega) (by decide)), (xn_ar (n := 9) (N := 159) rfl (by decide) (by decide)), trivial⟩ ?_
              refine xw_cong ?_ rfl ?_ ih
              · rw [nI_1]
              · rw [show (9 : Int32).toNatClampNeg = 9 from rfl, xn_cl (by omega), xup_s]
                refine congrArg (fun X => (xS b, va_up (va_up I 63 (xfil (N 1) (xrr fv (xso N) (N 1) (N 0) 0) (I 63))) 61 X, L, xP b)) ?_
                have g1 : xfil (N 1) (xrr fv (xso N) (N 1) (N 0) 0) (I 63) k = nI (xro fv (xso N) (N 1) (N 0) k) := by
                  simp only [xfil, xrr]
                  rw [if_pos hk, if_pos hk, if_neg (by omega)]
                show va_up (va_up (xwr N fv (I 61) (N 0 * N 1)) 9 (nI (N 9 + xsum (fun q => xro fv (xso N) (N 1) (N 0) q) k))) 9 (nI (N 9 + xsum (fun q => xro fv (xso N) (N 1) (N 0) q) k) + xfil (N 1) (xrr fv (xso N) (N 1) (N 0) 0) (I 63) k) = _
                rw [g1, nI_add, xvv_s, Nat.add_assoc]
                rfl
          · skip
            refine xw_go xb_143 3 (f1 := (if (nI (N 1)) ≤ (nI (N 1)) then 147 else 125, [.ref 60, .int (nI (N 1)), .int (nI (N 1)), .float 0, .float 0, .float 0], [])) (h1 := (xS b, va_up (va_up I 63 (xfil (N 1) (xrr fv (xso N) (N 1) (N 0) 0) (I 63))) 61 (va_up (xwr N fv (I 61) (N 0 * N 1)) 9 (nI (N 9 + xsum (fun q => xro fv (xso N) (N 1) (N 0) q) (N 1)))), L, xP b)) rfl trivial ?_
            refine xw_if (fun c_122 => ?_) (fun c_122 => ?_)
            · skip
              refine xw_go xb_143 8 (f1 := (162, [.ref 60, .int (nI (N 1)), .int (nI (N 1)), .float 0, .float 0, .float 0], [.int 999999, .int ((va_up (va_up I 63 (xfil (N 1) (xrr fv (xso N) (N 1) (N 0) 0) (I 63))) 61 (va_up (xwr N fv (I 61) (N 0 * N 1)) 9 (nI (N 9 + xsum (fun q => xro fv (xso N) (N 1) (N 0) q) (N 1))))) 61 (9 : Int32).toNatClampNeg), .int 9, .ref 61])) (h1 := (xS b, va_up (va_up I 63 (xfil (N 1) (xrr fv (xso N) (N 1) (N 0) 0) (I 63))) 61 (va_up (xwr N fv (I 61) (N 0 * N 1)) 9 (nI (N 9 + xsum (fun q => xro fv (xso N) (N 1) (N 0) q) (N 1)))), L, xP b)) rfl ⟨rfl, rfl, (xn_ar (n := 9) (N := 159) rfl (by decide) (by decide)), trivial⟩ ?_
              refine xw_cong (l' := [.ref 60, .int (nI (N 1)), .int (nI (N 1)), .float 0, .float 0, .float 0]) (st' := [.int 999999, .int (nI (N 9 + xlost fv (xso N) (N 0) (N 1))), .int 9, .ref 61]) (h' := (xS b, va_up (va_up I 63 (xfil (N 1) (xrr fv (xso N) (N 1) (N 0) 0) (I 63))) 61 (va_up (xwr N fv (I 61) (N 0 * N 1)) 9 (nI (N 9 + xsum (fun q => xro fv (xso N) (N 1) (N 0) q) (N 1)))), L, xP b)) rfl (show ([.int 999999, .int ((va_up (va_up I 63 (xfil (N 1) (xrr fv (xso N) (N 1) (N 0) 0) (I 63))) 61 (va_up (xwr N fv (I 61) (N 0 * N 1)) 9 (nI (N 9 + xsum (fun q => xro fv (xso N) (N 1) (N 0) q) (N 1))))) 61 (9 : Int32).toNatClampNeg), .int 9, .ref 61] : List Value) = [.int 999999, .int (nI (N 9 + xlost fv (xso N) (N 0) (N 1))), .int 9, .ref 61] from ?_) rfl ?_
              · rfl
              refine xw_go xb_143 1 (f1 := (if (nI (N 9 + xlost fv (xso N) (N 0) (N 1))) ≤ 999999 then 170 else 165, [.ref 60, .int (nI (N 1)), .int (nI (N 1)), .float 0, .float 0, .float 0], [.int 9, .ref 61])) (h1 := (xS b, va_up (va_up I 63 (xfil (N 1) (xrr fv (xso N) (N 1) (N 0) 0) (I 63))) 61 (va_up (xwr N fv (I 61) (N 0 * N 1)) 9 (nI (N 9 + xsum (fun q => xro fv (xso N) (N 1) (N 0) q) (N 1)))), L, xP b)) rfl trivial ?_
              refine xw_if (fun c_162 => ?_) (fun c_162 => ?_)
              · skip
                refine xw_go xb_143 5 (f1 := (178, [.ref 60, .int (nI (N 1)), .int (nI (N 1)), .float 0, .float 0, .float 0], [])) (h1 := (xS b, xm_up (va_up (va_up I 63 (xfil (N 1) (xrr fv (xso N) (N 1) (N 0) 0) (I 63))) 61 (va_up (xwr N fv (I 61) (N 0 * N 1)) 9 (nI (N 9 + xsum (fun q => xro fv (xso N) (N 1) (N 0) q) (N 1))))) 61 (9 : Int32).toNatClampNeg ((va_up (va_up I 63 (xfil (N 1) (xrr fv (xso N) (N 1) (N 0) 0) (I 63))) 61 (va_up (xwr N fv (I 61) (N 0 * N 1)) 9 (nI (N 9 + xsum (fun q => xro fv (xso N) (N 1) (N 0) q) (N 1))))) 61 (9 : Int32).toNatClampNeg), L, xP b)) rfl ⟨rfl, (xn_ar (n := 9) (N := 159) rfl (by decide) (by decide)), (xn_ar (n := 9) (N := 159) rfl (by decide) (by decide)), trivial⟩ ?_
                refine xw_at (f' := (178, [.ref 60, .int (nI (N 1)), .int (nI (N 1)), .float 0, .float 0, .float 0], [])) (h' := (xS b, va_up (va_up I 63 (xfil (N 1) (xrr fv (xso N) (N 1) (N 0) 0) (I 63))) 61 (va_up (xwr N fv (I 61) (N 0 * N 1)) 9 (nI (min 999999 (N 9 + xlost fv (xso N) (N 0) (N 1))))), L, xP b)) rfl (show (xS b, xm_up (va_up (va_up I 63 (xfil (N 1) (xrr fv (xso N) (N 1) (N 0) 0) (I 63))) 61 (va_up (xwr N fv (I 61) (N 0 * N 1)) 9 (nI (N 9 + xsum (fun q => xro fv (xso N) (N 1) (N 0) q) (N 1))))) 61 (9 : Int32).toNatClampNeg ((va_up (va_up I 63 (xfil (N 1) (xrr fv (xso N) (N 1) (N 0) 0) (I 63))) 61 (va_up (xwr N fv (I 61) (N 0 * N 1)) 9 (nI (N 9 + xsum (fun q => xro fv (xso N) (N 1) (N 0) q) (N 1))))) 61 (9 : Int32).toNatClampNeg), L, xP b) = (xS b, va_up (va_up I 63 (xfil (N 1) (xrr fv (xso N) (N 1) (N 0) 0) (I 63))) 61 (va_up (xwr N fv (I 61) (N 0 * N 1)) 9 (nI (min 999999 (N 9 + xlost fv (xso N) (N 0) (N 1))))), L, xP b) from ?_) ?_
                · simp (disch := omega) only [xl_999999, nI_leI] at c_162
                  rw [show (9 : Int32).toNatClampNeg = 9 from rfl, xup_s]
                  refine congrArg (fun X => (xS b, va_up (va_up I 63 (xfil (N 1) (xrr fv (xso N) (N 1) (N 0) 0) (I 63))) 61 X, L, xP b)) ?_
                  first | (rw [xvv_s, xl_999999, show min 999999 (N 9 + xlost fv (xso N) (N 0) (N 1)) = 999999 by omega]; done) | (rw [show min 999999 (N 9 + xlost fv (xso N) (N 0) (N 1)) = N 9 + xlost fv (xso N) (N 0) (N 1) by omega]; exact xvv_s)
                refine xw_go xb_143 8 (f1 := (188, [.ref 60, .int (nI (N 1)), .int (nI (N 1)), .float 0, .float 0, .float 0], [])) (h1 := (xS b, xm_up (va_up (va_up I 63 (xfil (N 1) (xrr fv (xso N) (N 1) (N 0) 0) (I 63))) 61 (va_up (xwr N fv (I 61) (N 0 * N 1)) 9 (nI (min 999999 (N 9 + xlost fv (xso N) (N 0) (N 1)))))) 61 (4 : Int32).toNatClampNeg (((va_up (va_up I 63 (xfil (N 1) (xrr fv (xso N) (N 1) (N 0) 0) (I 63))) 61 (va_up (xwr N fv (I 61) (N 0 * N 1)) 9 (nI (min 999999 (N 9 + xlost fv (xso N) (N 0) (N 1)))))) 61 (4 : Int32).toNatClampNeg) + 1), L, xP b)) rfl ⟨rfl, (xn_ar (n := 4) (N := 159) rfl (by decide) (by decide)), (xn_ar (n := 4) (N := 159) rfl (by decide) (by decide)), trivial⟩ ?_
                refine xw_ret xb_143 rfl rfl trivial ?_
                refine ⟨rfl, xfil (N 1) (xrr fv (xso N) (N 1) (N 0) 0) (I 63), va_up (va_up (xwr N fv (I 61) (N 0 * N 1)) 9 (nI (min 999999 (N 9 + xlost fv (xso N) (N 0) (N 1))))) 4 (nI (N 4 + 1)), ?_, fun k hk => ?_⟩
                · rw [show (4 : Int32).toNatClampNeg = 4 from rfl, xup_s]
                  refine congrArg (fun X => (xS b, va_up (va_up I 63 (xfil (N 1) (xrr fv (xso N) (N 1) (N 0) 0) (I 63))) 61 (va_up (va_up (xwr N fv (I 61) (N 0 * N 1)) 9 (nI (min 999999 (N 9 + xlost fv (xso N) (N 0) (N 1))))) 4 X), L, xP b)) ?_
                  show xwr N fv (I 61) (N 0 * N 1) 4 + 1 = _
                  have e : xwr N fv (I 61) (N 0 * N 1) 4 = nI (N 4) := by
                    unfold xwr
                    rw [if_neg (by omega)]
                    exact hM 4 (by decide)
                  rw [e, nI_1]
                · unfold xgo va_up xwr xce
                  by_cases h4 : k = 4
                  · subst h4
                    rw [if_pos rfl, if_neg (by omega), if_neg (by omega), if_pos rfl]
                  · rw [if_neg h4]
                    by_cases h9 : k = 9
                    · subst h9
                      rw [if_pos rfl, if_neg (by omega), if_pos rfl]
                    · rw [if_neg h9]
                      by_cases hw : 95 ≤ k ∧ k < 95 + N 0 * N 1
                      · rw [if_pos hw, if_pos hw]
                      · rw [if_neg hw, if_neg hw, if_neg h9, if_neg h4]
                        exact hM k hk
              · skip
                refine xw_go xb_143 3 (f1 := (178, [.ref 60, .int (nI (N 1)), .int (nI (N 1)), .float 0, .float 0, .float 0], [])) (h1 := (xS b, xm_up (va_up (va_up I 63 (xfil (N 1) (xrr fv (xso N) (N 1) (N 0) 0) (I 63))) 61 (va_up (xwr N fv (I 61) (N 0 * N 1)) 9 (nI (N 9 + xsum (fun q => xro fv (xso N) (N 1) (N 0) q) (N 1))))) 61 (9 : Int32).toNatClampNeg 999999, L, xP b)) rfl ⟨(xn_ar (n := 9) (N := 159) rfl (by decide) (by decide)), trivial⟩ ?_
                refine xw_at (f' := (178, [.ref 60, .int (nI (N 1)), .int (nI (N 1)), .float 0, .float 0, .float 0], [])) (h' := (xS b, va_up (va_up I 63 (xfil (N 1) (xrr fv (xso N) (N 1) (N 0) 0) (I 63))) 61 (va_up (xwr N fv (I 61) (N 0 * N 1)) 9 (nI (min 999999 (N 9 + xlost fv (xso N) (N 0) (N 1))))), L, xP b)) rfl (show (xS b, xm_up (va_up (va_up I 63 (xfil (N 1) (xrr fv (xso N) (N 1) (N 0) 0) (I 63))) 61 (va_up (xwr N fv (I 61) (N 0 * N 1)) 9 (nI (N 9 + xsum (fun q => xro fv (xso N) (N 1) (N 0) q) (N 1))))) 61 (9 : Int32).toNatClampNeg 999999, L, xP b) = (xS b, va_up (va_up I 63 (xfil (N 1) (xrr fv (xso N) (N 1) (N 0) 0) (I 63))) 61 (va_up (xwr N fv (I 61) (N 0 * N 1)) 9 (nI (min 999999 (N 9 + xlost fv (xso N) (N 0) (N 1))))), L, xP b) from ?_) ?_
                · simp (disch := omega) only [xl_999999, nI_leI] at c_162
                  rw [show (9 : Int32).toNatClampNeg = 9 from rfl, xup_s]
                  refine congrArg (fun X => (xS b, va_up (va_up I 63 (xfil (N 1) (xrr fv (xso N) (N 1) (N 0) 0) (I 63))) 61 X, L, xP b)) ?_
                  first | (rw [xvv_s, xl_999999, show min 999999 (N 9 + xlost fv (xso N) (N 0) (N 1)) = 999999 by omega]; done) | (rw [show min 999999 (N 9 + xlost fv (xso N) (N 0) (N 1)) = N 9 + xlost fv (xso N) (N 0) (N 1) by omega]; exact xvv_s)
                refine xw_go xb_143 8 (f1 := (188, [.ref 60, .int (nI (N 1)), .int (nI (N 1)), .float 0, .float 0, .float 0], [])) (h1 := (xS b, xm_up (va_up (va_up I 63 (xfil (N 1) (xrr fv (xso N) (N 1) (N 0) 0) (I 63))) 61 (va_up (xwr N fv (I 61) (N 0 * N 1)) 9 (nI (min 999999 (N 9 + xlost fv (xso N) (N 0) (N 1)))))) 61 (4 : Int32).toNatClampNeg (((va_up (va_up I 63 (xfil (N 1) (xrr fv (xso N) (N 1) (N 0) 0) (I 63))) 61 (va_up (xwr N fv (I 61) (N 0 * N 1)) 9 (nI (min 999999 (N 9 + xlost fv (xso N) (N 0) (N 1)))))) 61 (4 : Int32).toNatClampNeg) + 1), L, xP b)) rfl ⟨rfl, (xn_ar (n := 4) (N := 159) rfl (by decide) (by decide)), (xn_ar (n := 4) (N := 159) rfl (by decide) (by decide)), trivial⟩ ?_
                refine xw_ret xb_143 rfl rfl trivial ?_
                refine ⟨rfl, xfil (N 1) (xrr fv (xso N) (N 1) (N 0) 0) (I 63), va_up (va_up (xwr N fv (I 61) (N 0 * N 1)) 9 (nI (min 999999 (N 9 + xlost fv (xso N) (N 0) (N 1))))) 4 (nI (N 4 + 1)), ?_, fun k hk => ?_⟩
                · rw [show (4 : Int32).toNatClampNeg = 4 from rfl, xup_s]
                  refine congrArg (fun X => (xS b, va_up (va_up I 63 (xfil (N 1) (xrr fv (xso N) (N 1) (N 0) 0) (I 63))) 61 (va_up (va_up (xwr N fv (I 61) (N 0 * N 1)) 9 (nI (min 999999 (N 9 + xlost fv (xso N) (N 0) (N 1))))) 4 X), L, xP b)) ?_
                  show xwr N fv (I 61) (N 0 * N 1) 4 + 1 = _
                  have e : xwr N fv (I 61) (N 0 * N 1) 4 = nI (N 4) := by
                    unfold xwr
                    rw [if_neg (by omega)]
                    exact hM 4 (by decide)
                  rw [e, nI_1]
                · unfold xgo va_up xwr xce
                  by_cases h4 : k = 4
                  · subst h4
                    rw [if_pos rfl, if_neg (by omega), if_neg (by omega), if_pos rfl]
                  · rw [if_neg h4]
                    by_cases h9 : k = 9
                    · subst h9
                      rw [if_pos rfl, if_neg (by omega), if_pos rfl]
                    · rw [if_neg h9]
                      by_cases hw : 95 ≤ k ∧ k < 95 + N 0 * N 1
                      · rw [if_pos hw, if_pos hw]
                      · rw [if_neg hw, if_neg hw, if_neg h9, if_neg h4]
                        exact hM k hk
            · skip
              exfalso
              simp (disch := omega) only [nI_leI, nI_ltI] at c_122
              omega
        · skip
          exfalso
          simp (disch := omega) only [nI_leI, nI_ltI] at c_34
          omega
    · skip
      exfalso
      simp (disch := omega) only [nI_leI, nI_ltI] at c_11
      omega

