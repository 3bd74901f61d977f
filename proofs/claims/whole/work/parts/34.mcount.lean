/-! ===== the model: counts, asides ===== -/
/-- what is not listed is as it was -/
def xfr (l : List Nat) (I I' : Nat → Nat → Int32) : Prop := ∀ a, a ∉ l → I' a = I a
/-- how many are wrong, too dry -/
def xwc (N : Nat → Nat) : Nat := xcnt (fun c => xs_wrong (N (31 + c)) (N (95 + c)) (N 7) (N 8)) (N 0 * N 1)
def xdc (N : Nat → Nat) : Nat := xcnt (fun c => xs_dry (N (31 + c)) (N (95 + c)) (N 7)) (N 0 * N 1)
theorem xt64 (x : Int32) : x.toInt64.toInt = x.toInt := Int32.toInt_toInt64 x
theorem m_wrongOnes {d : Nat} {b : Bool} {I : Nat → Nat → Int32} {L : Nat → Nat → Int64} {N : Nat → Nat} (hM : xMN N I) (hO : xOK N) : xm_Z (d + 3) 132 [.ref 60] (xS b, I, L, xP b) (fun rz hz => rz = some (.int (nI (xwc N))) ∧ hz = (xS b, I, L, xP b)) := by
  have hb := hO.1
  have c64 : N 0 * N 1 ≤ 64 := xce_le hO
  refine xw_S xb_132 (l := [.ref 60, .float 0, .float 0]) (Nat.le_of_ble_eq_true rfl) rfl ?_
  refine xw_go xb_132 4 (f1 := (4, [.ref 60, .int 0, .int 0], [])) (h1 := (xS b, I, L, xP b)) rfl trivial ?_
  refine xw_loop (N 0 * N 1) (fun c => (4, [.ref 60, .int (nI (xcnt (fun c => xs_wrong (N (31 + c)) (N (95 + c)) (N 7) (N 8)) c)), .int (nI c)], [])) (fun c => (xS b, I, L, xP b)) (fun c hc ih => ?_) ?_ 0 (Nat.zero_le _)
  · skip
    refine xw_go xb_132 2 (f1 := (6, [.ref 60, .int (nI (xcnt (fun c => xs_wrong (N (31 + c)) (N (95 + c)) (N 7) (N 8)) c)), .int (nI c)], [.ref 60, .int (nI c)])) (h1 := (xS b, I, L, xP b)) rfl trivial ?_
    refine xw_call xb_132 rfl rfl rfl rfl rfl (Or.inr ⟨_, _, rfl, rfl⟩) (m_cells (I := I) (fun k hk => hM k hk)) ?_
    rintro _ _ ⟨rfl, rfl⟩
    refine xw_at (f' := (9, [.ref 60, .int (nI (xcnt (fun c => xs_wrong (N (31 + c)) (N (95 + c)) (N 7) (N 8)) c)), .int (nI c)], [.int (nI (N 0 * N 1)), .int (nI c)])) (h' := (xS b, I, L, xP b)) rfl rfl ?_
    refine xw_go xb_132 1 (f1 := (if (nI (N 0 * N 1)) ≤ (nI c) then 34 else 12, [.ref 60, .int (nI (xcnt (fun c => xs_wrong (N (31 + c)) (N (95 + c)) (N 7) (N 8)) c)), .int (nI c)], [])) (h1 := (xS b, I, L, xP b)) rfl trivial ?_
    refine xw_if (fun c_9 => ?_) (fun c_9 => ?_)
    · skip
      exfalso
      simp (disch := omega) only [nI_leI, nI_ltI] at c_9
      omega
    · skip
      refine xw_go xb_132 3 (f1 := (15, [.ref 60, .int (nI (xcnt (fun c => xs_wrong (N (31 + c)) (N (95 + c)) (N 7) (N 8)) c)), .int (nI c)], [.int (nI c), .ref 60, .int (nI (xcnt (fun c => xs_wrong (N (31 + c)) (N (95 + c)) (N 7) (N 8)) c))])) (h1 := (xS b, I, L, xP b)) rfl trivial ?_
      refine xw_call xb_132 rfl rfl rfl rfl rfl (Or.inr ⟨_, _, rfl, rfl⟩) (m_isWrong hM hO (c := c) (by omega) rfl) ?_
      rintro _ _ ⟨rfl, rfl⟩
      refine xw_at (f' := (18, [.ref 60, .int (nI (xcnt (fun c => xs_wrong (N (31 + c)) (N (95 + c)) (N 7) (N 8)) c)), .int (nI c)], [.int (nI (xB (xs_wrong (N (31 + c)) (N (95 + c)) (N 7) (N 8)))), .int (nI (xcnt (fun c => xs_wrong (N (31 + c)) (N (95 + c)) (N 7) (N 8)) c))])) (h' := (xS b, I, L, xP b)) rfl rfl ?_
      refine xw_go xb_132 1 (f1 := (if (nI (xB (xs_wrong (N (31 + c)) (N (95 + c)) (N 7) (N 8)))) = 0 then 25 else 21, [.ref 60, .int (nI (xcnt (fun c => xs_wrong (N (31 + c)) (N (95 + c)) (N 7) (N 8)) c)), .int (nI c)], [.int (nI (xcnt (fun c => xs_wrong (N (31 + c)) (N (95 + c)) (N 7) (N 8)) c))])) (h1 := (xS b, I, L, xP b)) rfl trivial ?_
      refine xw_if (fun c_18 => ?_) (fun c_18 => ?_)
      · skip
        refine xw_go xb_132 5 (f1 := (4, [.ref 60, .int ((nI (xcnt (fun c => xs_wrong (N (31 + c)) (N (95 + c)) (N 7) (N 8)) c)) + 0), .int ((nI c) + 1)], [])) (h1 := (xS b, I, L, xP b)) rfl trivial ?_
        refine xw_cong ?_ rfl rfl ih
        rw [nI_1 c]
        simp only [xB_eq0] at c_18
        have e9 : xcnt (fun c => xs_wrong (N (31 + c)) (N (95 + c)) (N 7) (N 8)) (c + 1) = xcnt (fun c => xs_wrong (N (31 + c)) (N (95 + c)) (N 7) (N 8)) c + xB (xs_wrong (N (31 + c)) (N (95 + c)) (N 7) (N 8)) := rfl
        rw [e9]
        first | (rw [c_18]; exact congrArg (fun z => [Value.ref 60, .int z, .int (nI (c + 1))]) (Int32.add_zero _)) | (rw [show xs_wrong (N (31 + c)) (N (95 + c)) (N 7) (N 8) = true by simpa using c_18]; exact congrArg (fun z => [Value.ref 60, .int z, .int (nI (c + 1))]) (nI_1 _))
      · skip
        refine xw_go xb_132 6 (f1 := (4, [.ref 60, .int ((nI (xcnt (fun c => xs_wrong (N (31 + c)) (N (95 + c)) (N 7) (N 8)) c)) + 1), .int ((nI c) + 1)], [])) (h1 := (xS b, I, L, xP b)) rfl trivial ?_
        refine xw_cong ?_ rfl rfl ih
        rw [nI_1 c]
        simp only [xB_eq0] at c_18
        have e9 : xcnt (fun c => xs_wrong (N (31 + c)) (N (95 + c)) (N 7) (N 8)) (c + 1) = xcnt (fun c => xs_wrong (N (31 + c)) (N (95 + c)) (N 7) (N 8)) c + xB (xs_wrong (N (31 + c)) (N (95 + c)) (N 7) (N 8)) := rfl
        rw [e9]
        first | (rw [c_18]; exact congrArg (fun z => [Value.ref 60, .int z, .int (nI (c + 1))]) (Int32.add_zero _)) | (rw [show xs_wrong (N (31 + c)) (N (95 + c)) (N 7) (N 8) = true by simpa using c_18]; exact congrArg (fun z => [Value.ref 60, .int z, .int (nI (c + 1))]) (nI_1 _))
  · skip
    refine xw_go xb_132 2 (f1 := (6, [.ref 60, .int (nI (xcnt (fun c => xs_wrong (N (31 + c)) (N (95 + c)) (N 7) (N 8)) (N 0 * N 1))), .int (nI (N 0 * N 1))], [.ref 60, .int (nI (N 0 * N 1))])) (h1 := (xS b, I, L, xP b)) rfl trivial ?_
    refine xw_call xb_132 rfl rfl rfl rfl rfl (Or.inr ⟨_, _, rfl, rfl⟩) (m_cells (I := I) (fun k hk => hM k hk)) ?_
    rintro _ _ ⟨rfl, rfl⟩
    refine xw_at (f' := (9, [.ref 60, .int (nI (xcnt (fun c => xs_wrong (N (31 + c)) (N (95 + c)) (N 7) (N 8)) (N 0 * N 1))), .int (nI (N 0 * N 1))], [.int (nI (N 0 * N 1)), .int (nI (N 0 * N 1))])) (h' := (xS b, I, L, xP b)) rfl rfl ?_
    refine xw_go xb_132 1 (f1 := (if (nI (N 0 * N 1)) ≤ (nI (N 0 * N 1)) then 34 else 12, [.ref 60, .int (nI (xcnt (fun c => xs_wrong (N (31 + c)) (N (95 + c)) (N 7) (N 8)) (N 0 * N 1))), .int (nI (N 0 * N 1))], [])) (h1 := (xS b, I, L, xP b)) rfl trivial ?_
    refine xw_if (fun c_9 => ?_) (fun c_9 => ?_)
    · skip
      refine xw_go xb_132 1 (f1 := (35, [.ref 60, .int (nI (xcnt (fun c => xs_wrong (N (31 + c)) (N (95 + c)) (N 7) (N 8)) (N 0 * N 1))), .int (nI (N 0 * N 1))], [.int (nI (xcnt (fun c => xs_wrong (N (31 + c)) (N (95 + c)) (N 7) (N 8)) (N 0 * N 1)))])) (h1 := (xS b, I, L, xP b)) rfl trivial ?_
      refine xw_ret xb_132 rfl rfl trivial ?_
      exact ⟨rfl, rfl⟩
    · skip
      exfalso
      simp (disch := omega) only [nI_leI, nI_ltI] at c_9
      omega

theorem m_dryOnes {d : Nat} {b : Bool} {I : Nat → Nat → Int32} {L : Nat → Nat → Int64} {N : Nat → Nat} (hM : xMN N I) (hO : xOK N) : xm_Z (d + 3) 154 [.ref 60] (xS b, I, L, xP b) (fun rz hz => rz = some (.int (nI (xdc N))) ∧ hz = (xS b, I, L, xP b)) := by
  have hb := hO.1
  have c64 : N 0 * N 1 ≤ 64 := xce_le hO
  refine xw_S xb_154 (l := [.ref 60, .float 0, .float 0]) (Nat.le_of_ble_eq_true rfl) rfl ?_
  refine xw_go xb_154 4 (f1 := (4, [.ref 60, .int 0, .int 0], [])) (h1 := (xS b, I, L, xP b)) rfl trivial ?_
  refine xw_loop (N 0 * N 1) (fun c => (4, [.ref 60, .int (nI (xcnt (fun c => xs_dry (N (31 + c)) (N (95 + c)) (N 7)) c)), .int (nI c)], [])) (fun c => (xS b, I, L, xP b)) (fun c hc ih => ?_) ?_ 0 (Nat.zero_le _)
  · skip
    refine xw_go xb_154 2 (f1 := (6, [.ref 60, .int (nI (xcnt (fun c => xs_dry (N (31 + c)) (N (95 + c)) (N 7)) c)), .int (nI c)], [.ref 60, .int (nI c)])) (h1 := (xS b, I, L, xP b)) rfl trivial ?_
    refine xw_call xb_154 rfl rfl rfl rfl rfl (Or.inr ⟨_, _, rfl, rfl⟩) (m_cells (I := I) (fun k hk => hM k hk)) ?_
    rintro _ _ ⟨rfl, rfl⟩
    refine xw_at (f' := (9, [.ref 60, .int (nI (xcnt (fun c => xs_dry (N (31 + c)) (N (95 + c)) (N 7)) c)), .int (nI c)], [.int (nI (N 0 * N 1)), .int (nI c)])) (h' := (xS b, I, L, xP b)) rfl rfl ?_
    refine xw_go xb_154 1 (f1 := (if (nI (N 0 * N 1)) ≤ (nI c) then 34 else 12, [.ref 60, .int (nI (xcnt (fun c => xs_dry (N (31 + c)) (N (95 + c)) (N 7)) c)), .int (nI c)], [])) (h1 := (xS b, I, L, xP b)) rfl trivial ?_
    refine xw_if (fun c_9 => ?_) (fun c_9 => ?_)
    · skip
      exfalso
      simp (disch := omega) only [nI_leI, nI_ltI] at c_9
      omega
    · skip
      refine xw_go xb_154 3 (f1 := (15, [.ref 60, .int (nI (xcnt (fun c => xs_dry (N (31 + c)) (N (95 + c)) (N 7)) c)), .int (nI c)], [.int (nI c), .ref 60, .int (nI (xcnt (fun c => xs_dry (N (31 + c)) (N (95 + c)) (N 7)) c))])) (h1 := (xS b, I, L, xP b)) rfl trivial ?_
      refine xw_call xb_154 rfl rfl rfl rfl rfl (Or.inr ⟨_, _, rfl, rfl⟩) (m_isDry hM hO (c := c) (by omega) rfl) ?_
      rintro _ _ ⟨rfl, rfl⟩
      refine xw_at (f' := (18, [.ref 60, .int (nI (xcnt (fun c => xs_dry (N (31 + c)) (N (95 + c)) (N 7)) c)), .int (nI c)], [.int (nI (xB (xs_dry (N (31 + c)) (N (95 + c)) (N 7)))), .int (nI (xcnt (fun c => xs_dry (N (31 + c)) (N (95 + c)) (N 7)) c))])) (h' := (xS b, I, L, xP b)) rfl rfl ?_
      refine xw_go xb_154 1 (f1 := (if (nI (xB (xs_dry (N (31 + c)) (N (95 + c)) (N 7)))) = 0 then 25 else 21, [.ref 60, .int (nI (xcnt (fun c => xs_dry (N (31 + c)) (N (95 + c)) (N 7)) c)), .int (nI c)], [.int (nI (xcnt (fun c => xs_dry (N (31 + c)) (N (95 + c)) (N 7)) c))])) (h1 := (xS b, I, L, xP b)) rfl trivial ?_
      refine xw_if (fun c_18 => ?_) (fun c_18 => ?_)
      · skip
        refine xw_go xb_154 5 (f1 := (4, [.ref 60, .int ((nI (xcnt (fun c => xs_dry (N (31 + c)) (N (95 + c)) (N 7)) c)) + 0), .int ((nI c) + 1)], [])) (h1 := (xS b, I, L, xP b)) rfl trivial ?_
        refine xw_cong ?_ rfl rfl ih
        rw [nI_1 c]
        simp only [xB_eq0] at c_18
        have e9 : xcnt (fun c => xs_dry (N (31 + c)) (N (95 + c)) (N 7)) (c + 1) = xcnt (fun c => xs_dry (N (31 + c)) (N (95 + c)) (N 7)) c + xB (xs_dry (N (31 + c)) (N (95 + c)) (N 7)) := rfl
        rw [e9]
        first | (rw [c_18]; exact congrArg (fun z => [Value.ref 60, .int z, .int (nI (c + 1))]) (Int32.add_zero _)) | (rw [show xs_dry (N (31 + c)) (N (95 + c)) (N 7) = true by simpa using c_18]; exact congrArg (fun z => [Value.ref 60, .int z, .int (nI (c + 1))]) (nI_1 _))
      · skip
        refine xw_go xb_154 6 (f1 := (4, [.ref 60, .int ((nI (xcnt (fun c => xs_dry (N (31 + c)) (N (95 + c)) (N 7)) c)) + 1), .int ((nI c) + 1)], [])) (h1 := (xS b, I, L, xP b)) rfl trivial ?_
        refine xw_cong ?_ rfl rfl ih
        rw [nI_1 c]
        simp only [xB_eq0] at c_18
        have e9 : xcnt (fun c => xs_dry (N (31 + c)) (N (95 + c)) (N 7)) (c + 1) = xcnt (fun c => xs_dry (N (31 + c)) (N (95 + c)) (N 7)) c + xB (xs_dry (N (31 + c)) (N (95 + c)) (N 7)) := rfl
        rw [e9]
        first | (rw [c_18]; exact congrArg (fun z => [Value.ref 60, .int z, .int (nI (c + 1))]) (Int32.add_zero _)) | (rw [show xs_dry (N (31 + c)) (N (95 + c)) (N 7) = true by simpa using c_18]; exact congrArg (fun z => [Value.ref 60, .int z, .int (nI (c + 1))]) (nI_1 _))
  · skip
    refine xw_go xb_154 2 (f1 := (6, [.ref 60, .int (nI (xcnt (fun c => xs_dry (N (31 + c)) (N (95 + c)) (N 7)) (N 0 * N 1))), .int (nI (N 0 * N 1))], [.ref 60, .int (nI (N 0 * N 1))])) (h1 := (xS b, I, L, xP b)) rfl trivial ?_
    refine xw_call xb_154 rfl rfl rfl rfl rfl (Or.inr ⟨_, _, rfl, rfl⟩) (m_cells (I := I) (fun k hk => hM k hk)) ?_
    rintro _ _ ⟨rfl, rfl⟩
    refine xw_at (f' := (9, [.ref 60, .int (nI (xcnt (fun c => xs_dry (N (31 + c)) (N (95 + c)) (N 7)) (N 0 * N 1))), .int (nI (N 0 * N 1))], [.int (nI (N 0 * N 1)), .int (nI (N 0 * N 1))])) (h' := (xS b, I, L, xP b)) rfl rfl ?_
    refine xw_go xb_154 1 (f1 := (if (nI (N 0 * N 1)) ≤ (nI (N 0 * N 1)) then 34 else 12, [.ref 60, .int (nI (xcnt (fun c => xs_dry (N (31 + c)) (N (95 + c)) (N 7)) (N 0 * N 1))), .int (nI (N 0 * N 1))], [])) (h1 := (xS b, I, L, xP b)) rfl trivial ?_
    refine xw_if (fun c_9 => ?_) (fun c_9 => ?_)
    · skip
      refine xw_go xb_154 1 (f1 := (35, [.ref 60, .int (nI (xcnt (fun c => xs_dry (N (31 + c)) (N (95 + c)) (N 7)) (N 0 * N 1))), .int (nI (N 0 * N 1))], [.int (nI (xcnt (fun c => xs_dry (N (31 + c)) (N (95 + c)) (N 7)) (N 0 * N 1)))])) (h1 := (xS b, I, L, xP b)) rfl trivial ?_
      refine xw_ret xb_154 rfl rfl trivial ?_
      exact ⟨rfl, rfl⟩
    · skip
      exfalso
      simp (disch := omega) only [nI_leI, nI_ltI] at c_9
      omega

theorem m_wetness {d : Nat} {b : Bool} {I : Nat → Nat → Int32} {L : Nat → Nat → Int64} {N : Nat → Nat} (hM : xMN N I) (hO : xOK N) : xm_Z (d + 2) 131 [.ref 60] (xS b, I, L, xP b) (fun rz hz => rz = some (.int (nI (xsum (fun c => N (95 + c)) (N 0 * N 1)))) ∧ hz = (xS b, I, L, xP b)) := by
  have hb := hO.1
  have c64 : N 0 * N 1 ≤ 64 := xce_le hO
  refine xw_S xb_131 (l := [.ref 60, .float 0, .float 0]) (Nat.le_of_ble_eq_true rfl) rfl ?_
  refine xw_go xb_131 4 (f1 := (4, [.ref 60, .int 0, .int 0], [])) (h1 := (xS b, I, L, xP b)) rfl trivial ?_
  refine xw_loop (N 0 * N 1) (fun c => (4, [.ref 60, .int (nI (xsum (fun c => N (95 + c)) c)), .int (nI c)], [])) (fun c => (xS b, I, L, xP b)) (fun c hc ih => ?_) ?_ 0 (Nat.zero_le _)
  · skip
    refine xw_go xb_131 2 (f1 := (6, [.ref 60, .int (nI (xsum (fun c => N (95 + c)) c)), .int (nI c)], [.ref 60, .int (nI c)])) (h1 := (xS b, I, L, xP b)) rfl trivial ?_
    refine xw_call xb_131 rfl rfl rfl rfl rfl (Or.inr ⟨_, _, rfl, rfl⟩) (m_cells (I := I) (fun k hk => hM k hk)) ?_
    rintro _ _ ⟨rfl, rfl⟩
    refine xw_at (f' := (9, [.ref 60, .int (nI (xsum (fun c => N (95 + c)) c)), .int (nI c)], [.int (nI (N 0 * N 1)), .int (nI c)])) (h' := (xS b, I, L, xP b)) rfl rfl ?_
    refine xw_go xb_131 1 (f1 := (if (nI (N 0 * N 1)) ≤ (nI c) then 30 else 12, [.ref 60, .int (nI (xsum (fun c => N (95 + c)) c)), .int (nI c)], [])) (h1 := (xS b, I, L, xP b)) rfl trivial ?_
    refine xw_if (fun c_9 => ?_) (fun c_9 => ?_)
    · skip
      exfalso
      simp (disch := omega) only [nI_leI, nI_ltI] at c_9
      omega
    · skip
      refine xw_go xb_131 11 (f1 := (4, [.ref 60, .int ((nI (xsum (fun c => N (95 + c)) c)) + (I 61 (95 + (nI c)).toNatClampNeg)), .int ((nI c) + 1)], [])) (h1 := (xS b, I, L, xP b)) rfl ⟨rfl, (by show xm_ar _ 61 0 (95 + nI c); rw [xl_95, nI_add]; exact xn_ar (N := 159) rfl (by omega) (by decide)), trivial⟩ ?_
      refine xw_cong ?_ rfl rfl ih
      rw [nI_1 c, xl_95, nI_add, xn_cl (by omega), hM _ (by omega), nI_add]
      rfl
  · skip
    refine xw_go xb_131 2 (f1 := (6, [.ref 60, .int (nI (xsum (fun c => N (95 + c)) (N 0 * N 1))), .int (nI (N 0 * N 1))], [.ref 60, .int (nI (N 0 * N 1))])) (h1 := (xS b, I, L, xP b)) rfl trivial ?_
    refine xw_call xb_131 rfl rfl rfl rfl rfl (Or.inr ⟨_, _, rfl, rfl⟩) (m_cells (I := I) (fun k hk => hM k hk)) ?_
    rintro _ _ ⟨rfl, rfl⟩
    refine xw_at (f' := (9, [.ref 60, .int (nI (xsum (fun c => N (95 + c)) (N 0 * N 1))), .int (nI (N 0 * N 1))], [.int (nI (N 0 * N 1)), .int (nI (N 0 * N 1))])) (h' := (xS b, I, L, xP b)) rfl rfl ?_
    refine xw_go xb_131 1 (f1 := (if (nI (N 0 * N 1)) ≤ (nI (N 0 * N 1)) then 30 else 12, [.ref 60, .int (nI (xsum (fun c => N (95 + c)) (N 0 * N 1))), .int (nI (N 0 * N 1))], [])) (h1 := (xS b, I, L, xP b)) rfl trivial ?_
    refine xw_if (fun c_9 => ?_) (fun c_9 => ?_)
    · skip
      refine xw_go xb_131 1 (f1 := (31, [.ref 60, .int (nI (xsum (fun c => N (95 + c)) (N 0 * N 1))), .int (nI (N 0 * N 1))], [.int (nI (xsum (fun c => N (95 + c)) (N 0 * N 1)))])) (h1 := (xS b, I, L, xP b)) rfl trivial ?_
      refine xw_ret xb_131 rfl rfl trivial ?_
      exact ⟨rfl, rfl⟩
    · skip
      exfalso
      simp (disch := omega) only [nI_leI, nI_ltI] at c_9
      omega

theorem m_asides {d : Nat} {b : Bool} {I : Nat → Nat → Int32} {L : Nat → Nat → Int64}  : xm_Z (d + 1) 150 [.ref 60] (xS b, I, L, xP b) (fun rz hz => rz = none ∧ hz = (xS b, va_up I 68 (xfil 159 (I 61) (I 68)), L, xP b)) := by
  refine xw_S xb_150 (l := [.ref 60, .float 0]) (Nat.le_of_ble_eq_true rfl) rfl ?_
  refine xw_go xb_150 2 (f1 := (2, [.ref 60, .int 0], [])) (h1 := (xS b, I, L, xP b)) rfl trivial ?_
  refine xw_at (f' := (2, [.ref 60, .int (nI 0)], [])) (h' := (xS b, va_up I 68 (xfil 0 (I 61) (I 68)), L, xP b)) rfl (by rw [xfil_0, xm_up_id]) ?_
  refine xw_loop 159 (fun c => (2, [.ref 60, .int (nI c)], [])) (fun c => (xS b, va_up I 68 (xfil c (I 61) (I 68)), L, xP b)) (fun c hc ih => ?_) ?_ 0 (Nat.zero_le _)
  · skip
    refine xw_go xb_150 3 (f1 := (if 159 ≤ (nI c) then 27 else 9, [.ref 60, .int (nI c)], [])) (h1 := (xS b, va_up I 68 (xfil c (I 61) (I 68)), L, xP b)) rfl trivial ?_
    refine xw_if (fun c_6 => ?_) (fun c_6 => ?_)
    · skip
      exfalso
      simp (disch := omega) only [xl_159, nI_leI] at c_6
      omega
    · skip
      refine xw_go xb_150 10 (f1 := (2, [.ref 60, .int ((nI c) + 1)], [])) (h1 := (xS b, xm_up (va_up I 68 (xfil c (I 61) (I 68))) 68 (nI c).toNatClampNeg ((va_up I 68 (xfil c (I 61) (I 68))) 61 (nI c).toNatClampNeg), L, xP b)) rfl ⟨rfl, rfl, (xn_ar (n := c) (N := 159) rfl (by omega) (by decide)), (xn_ar (n := c) (N := 159) rfl (by omega) (by decide)), trivial⟩ ?_
      refine xw_cong ?_ rfl ?_ ih
      · rw [nI_1]
      · rw [xn_cl (by omega)]
        exact congrArg (fun Z => (xS b, Z, L, xP b)) (xfil_up I 68 c (I 61) (I 68) rfl)
  · skip
    refine xw_go xb_150 3 (f1 := (if 159 ≤ (nI 159) then 27 else 9, [.ref 60, .int (nI 159)], [])) (h1 := (xS b, va_up I 68 (xfil 159 (I 61) (I 68)), L, xP b)) rfl trivial ?_
    refine xw_if (fun c_6 => ?_) (fun c_6 => ?_)
    · skip
      refine xw_ret xb_150 rfl rfl trivial ?_
      exact ⟨rfl, rfl⟩
    · skip
      exfalso
      simp (disch := omega) only [xl_159, nI_leI] at c_6
      omega

theorem m_backs {d : Nat} {b : Bool} {I : Nat → Nat → Int32} {L : Nat → Nat → Int64}  : xm_Z (d + 1) 152 [.ref 60] (xS b, I, L, xP b) (fun rz hz => rz = none ∧ hz = (xS b, va_up I 61 (xfil 159 (I 68) (I 61)), L, xP b)) := by
  refine xw_S xb_152 (l := [.ref 60, .float 0]) (Nat.le_of_ble_eq_true rfl) rfl ?_
  refine xw_go xb_152 2 (f1 := (2, [.ref 60, .int 0], [])) (h1 := (xS b, I, L, xP b)) rfl trivial ?_
  refine xw_at (f' := (2, [.ref 60, .int (nI 0)], [])) (h' := (xS b, va_up I 61 (xfil 0 (I 68) (I 61)), L, xP b)) rfl (by rw [xfil_0, xm_up_id]) ?_
  refine xw_loop 159 (fun c => (2, [.ref 60, .int (nI c)], [])) (fun c => (xS b, va_up I 61 (xfil c (I 68) (I 61)), L, xP b)) (fun c hc ih => ?_) ?_ 0 (Nat.zero_le _)
  · skip
    refine xw_go xb_152 3 (f1 := (if 159 ≤ (nI c) then 27 else 9, [.ref 60, .int (nI c)], [])) (h1 := (xS b, va_up I 61 (xfil c (I 68) (I 61)), L, xP b)) rfl trivial ?_
    refine xw_if (fun c_6 => ?_) (fun c_6 => ?_)
    · skip
      exfalso
      simp (disch := omega) only [xl_159, nI_leI] at c_6
      omega
    · skip
      refine xw_go xb_152 10 (f1 := (2, [.ref 60, .int ((nI c) + 1)], [])) (h1 := (xS b, xm_up (va_up I 61 (xfil c (I 68) (I 61))) 61 (nI c).toNatClampNeg ((va_up I 61 (xfil c (I 68) (I 61))) 68 (nI c).toNatClampNeg), L, xP b)) rfl ⟨rfl, rfl, (xn_ar (n := c) (N := 159) rfl (by omega) (by decide)), (xn_ar (n := c) (N := 159) rfl (by omega) (by decide)), trivial⟩ ?_
      refine xw_cong ?_ rfl ?_ ih
      · rw [nI_1]
      · rw [xn_cl (by omega)]
        exact congrArg (fun Z => (xS b, Z, L, xP b)) (xfil_up I 61 c (I 68) (I 61) rfl)
  · skip
    refine xw_go xb_152 3 (f1 := (if 159 ≤ (nI 159) then 27 else 9, [.ref 60, .int (nI 159)], [])) (h1 := (xS b, va_up I 61 (xfil 159 (I 68) (I 61)), L, xP b)) rfl trivial ?_
    refine xw_if (fun c_6 => ?_) (fun c_6 => ?_)
    · skip
      refine xw_ret xb_152 rfl rfl trivial ?_
      exact ⟨rfl, rfl⟩
    · skip
      exfalso
      simp (disch := omega) only [xl_159, nI_leI] at c_6
      omega

theorem m_isCell {d : Nat} {b : Bool} {I : Nat → Nat → Int32} {L : Nat → Nat → Int64} {N : Nat → Nat} (hM : xMN N I) (hO : xOK N) {x : Int32} : xm_Z (d + 2) 111 [.ref 60, .int x] (xS b, I, L, xP b) (fun rz hz => rz = some (.int (nI (xB (decide (0 ≤ x.toInt ∧ x.toInt < ((N 0 * N 1 : Nat) : Int)))))) ∧ hz = (xS b, I, L, xP b)) := by
  have hb := hO.1
  have c64 : N 0 * N 1 ≤ 64 := xce_le hO
  refine xw_S xb_111 (l := [.ref 60, .int x]) (Nat.le_of_ble_eq_true rfl) rfl ?_
  refine xw_go xb_111 4 (f1 := (4, [.ref 60, .int x], [.ref 60, .long 0, .long x.toInt64])) (h1 := (xS b, I, L, xP b)) rfl trivial ?_
  refine xw_call xb_111 rfl rfl rfl rfl rfl (Or.inr ⟨_, _, rfl, rfl⟩) (m_cells hM) ?_
  rintro _ _ ⟨rfl, rfl⟩
  refine xw_at (f' := (7, [.ref 60, .int x], [.int (nI (N 0 * N 1)), .long 0, .long x.toInt64])) (h' := (xS b, I, L, xP b)) rfl rfl ?_
  refine xw_go xb_111 3 (f1 := (10, [.ref 60, .int x], [.long (((nI (N 0 * N 1)) - 1).toInt64), .long 0, .long x.toInt64])) (h1 := (xS b, I, L, xP b)) rfl trivial ?_
  refine xw_call xb_111 rfl rfl rfl rfl rfl (Or.inl rfl) m_in ?_
  rintro _ _ ⟨rfl, rfl⟩
  refine xw_at (f' := (13, [.ref 60, .int x], [.int (nI (xB (decide ((0 : Int64).toInt ≤ x.toInt64.toInt ∧ x.toInt64.toInt ≤ (nI (N 0 * N 1) - 1).toInt64.toInt))))])) (h' := (xS b, I, L, xP b)) rfl rfl ?_
  refine xw_ret xb_111 rfl rfl ?_ ?_
  · exact xB_01 _
  refine ⟨xm_some (congrArg Value.int ?_), rfl⟩
  congr 3
  apply propext
  rw [xt64, xt64, show (0 : Int64).toInt = 0 from rfl, xl_1, xt_sub (by omega) (by omega)]
  omega

theorem m_isSprinkler {d : Nat} {b : Bool} {I : Nat → Nat → Int32} {L : Nat → Nat → Int64} {N : Nat → Nat} (hM : xMN N I) (hO : xOK N) {x : Int32} : xm_Z (d + 2) 116 [.ref 60, .int x] (xS b, I, L, xP b) (fun rz hz => rz = some (.int (nI (xB (decide (0 ≤ x.toInt ∧ x.toInt < (N 2 : Int)))))) ∧ hz = (xS b, I, L, xP b)) := by
  have hb := hO.1
  have c64 : N 0 * N 1 ≤ 64 := xce_le hO
  refine xw_S xb_116 (l := [.ref 60, .int x]) (Nat.le_of_ble_eq_true rfl) rfl ?_
  refine xw_go xb_116 10 (f1 := (12, [.ref 60, .int x], [.long (((I 61 (2 : Int32).toNatClampNeg) - 1).toInt64), .long 0, .long x.toInt64])) (h1 := (xS b, I, L, xP b)) rfl ⟨rfl, (xn_ar (n := 2) (N := 159) rfl (by decide) (by decide)), trivial⟩ ?_
  refine xw_call xb_116 rfl rfl rfl rfl rfl (Or.inl rfl) m_in ?_
  rintro _ _ ⟨rfl, rfl⟩
  refine xw_at (f' := (15, [.ref 60, .int x], [.int (nI (xB (decide ((0 : Int64).toInt ≤ x.toInt64.toInt ∧ x.toInt64.toInt ≤ (I 61 (2 : Int32).toNatClampNeg - 1).toInt64.toInt))))])) (h' := (xS b, I, L, xP b)) rfl rfl ?_
  refine xw_ret xb_116 rfl rfl ?_ ?_
  · exact xB_01 _
  refine ⟨xm_some (congrArg Value.int ?_), rfl⟩
  congr 3
  apply propext
  rw [xt64, xt64, show (0 : Int64).toInt = 0 from rfl, xl_1, show (2 : Int32).toNatClampNeg = 2 from rfl, hM 2 (by decide), xt_sub (by omega) (by omega)]
  omega

theorem m_many {d : Nat} {S : List (Nat × Nat)} {I : Nat → Nat → Int32} {L : Nat → Nat → Int64} {P : Nat → Nat → Option Nat} {v : Nat} (bv : v < 32) {x1 : Int32} (e_x1 : x1 = nI v) : xm_Z (d + 1) 128 [.int x1] (S, I, L, P) (fun rz hz => rz = some (.int (nI (xpc v))) ∧ hz = (S, I, L, P)) := by
  subst e_x1
  refine xw_S xb_128 (l := [.int (nI v), .float 0, .float 0]) (Nat.le_of_ble_eq_true rfl) rfl ?_
  refine xw_go xb_128 4 (f1 := (4, [.int (nI v), .int 0, .int (nI v)], [])) (h1 := (S, I, L, P)) rfl trivial ?_
  have key : ∀ w, w < 32 → ∀ c, c + xpc w = xpc v → xm_W d 128 (4, [.int (nI v), .int (nI c), .int (nI w)], []) (S, I, L, P) (fun rz hz => rz = some (.int (nI (xpc v))) ∧ hz = (S, I, L, P)) := by
    intro w
    induction w using Nat.strongRecOn with
    | ind w ih =>
      intro hw c hc
      refine xw_go xb_128 2 (f1 := (if (nI w) = 0 then 20 else 8, [.int (nI v), .int (nI c), .int (nI w)], [])) (h1 := (S, I, L, P)) rfl trivial ?_
      refine xw_if (fun c_5 => ?_) (fun c_5 => ?_)
      · skip
        refine xw_go xb_128 1 (f1 := (21, [.int (nI v), .int (nI c), .int (nI w)], [.int (nI c)])) (h1 := (S, I, L, P)) rfl trivial ?_
        refine xw_ret xb_128 rfl rfl trivial ?_
        have hw0 : w = 0 := (nI_eq (by omega) (by decide)).mp (c_5.trans xl_0)
        subst hw0
        refine ⟨xm_some (congrArg Value.int ?_), rfl⟩
        rw [show xpc 0 = 0 from rfl] at hc
        rw [← hc]
        rfl
      · skip
        refine xw_go xb_128 8 (f1 := (4, [.int (nI v), .int ((nI c) + 1), .int ((nI w) &&& ((nI w) - 1))], [])) (h1 := (S, I, L, P)) rfl trivial ?_
        have hw0 : w ≠ 0 := fun q => c_5 (by rw [q]; rfl)
        obtain ⟨e1, e2, e3⟩ := xpc_step w hw hw0
        refine xw_cong ?_ rfl rfl (ih (w &&& (w - 1)) e2 (by omega) (c + 1) (by omega))
        rw [nI_1, e1]
  exact key v bv 0 (by omega)

set_option maxHeartbeats 4000000 in
theorem m_wrongBehind {d : Nat} {b : Bool} {I : Nat → Nat → Int32} {L : Nat → Nat → Int64} {N : Nat → Nat} (hM : xMN N I) (hO : xOK N) {o n : Nat} (bo : o < 32) (bn : N 4 + n < 1000000) {x1 : Int32} (e_x1 : x1 = nI o) {x2 : Int32} (e_x2 : x2 = nI n) : xm_Z (d + 4) 157 [.ref 60, .int x1, .int x2] (xS b, I, L, xP b) (fun rz hz => rz = some (.int (nI (xwc (xgoN N (xfa N o (N 5)) n)))) ∧ ∃ I', hz = (xS b, I', L, xP b) ∧ xfr [61, 62, 63] I I' ∧ ∀ k, k < 159 → I' 61 k = I 68 k) := by
  subst e_x1
  subst e_x2
  have hb := hO.1
  have c64 : N 0 * N 1 ≤ 64 := xce_le hO
  refine xw_S xb_157 (l := [.ref 60, .int (nI o), .int (nI n), .float 0]) (Nat.le_of_ble_eq_true rfl) rfl ?_
  refine xw_go xb_157 6 (f1 := (8, [.ref 60, .int (nI o), .int (nI n), .float 0], [.int (I 61 (5 : Int32).toNatClampNeg), .int (nI o), .ref 60])) (h1 := (xS b, I, L, xP b)) rfl ⟨rfl, (xn_ar (n := 5) (N := 159) rfl (by decide) (by decide)), trivial⟩ ?_
  refine xw_call xb_157 rfl rfl rfl rfl rfl (Or.inr ⟨_, _, rfl, rfl⟩) (m_rains (N := N) hM hO (o := o) (wi := N 5) bo (by omega) rfl (by rw [show (5 : Int32).toNatClampNeg = 5 from rfl]; exact hM 5 (by decide))) ?_
  rintro _ _ ⟨rfl, X1, rfl, hX1⟩
  refine xw_at (f' := (11, [.ref 60, .int (nI o), .int (nI n), .float 0], [])) (h' := (xS b, va_up I 62 X1, L, xP b)) rfl rfl ?_
  refine xw_go xb_157 2 (f1 := (13, [.ref 60, .int (nI o), .int (nI n), .float 0], [.int (nI n), .ref 60])) (h1 := (xS b, va_up I 62 X1, L, xP b)) rfl trivial ?_
  refine xw_call xb_157 rfl rfl rfl rfl rfl (Or.inr ⟨_, _, rfl, rfl⟩) (m_goesOn (I := (va_up I 62 X1)) (N := N) (fun k hk => hM k hk) hO (fv := xfa N o (N 5)) (fun j hj => hX1 j hj) (fun j hj => by have := xfa_le hO o (N 5) j; omega) (n := n) bn rfl) ?_
  rintro _ _ ⟨rfl, X2, Y, rfl, hY⟩
  refine xw_at (f' := (16, [.ref 60, .int (nI o), .int (nI n), .float 0], [])) (h' := (xS b, va_up (va_up (va_up I 62 X1) 63 X2) 61 Y, L, xP b)) rfl rfl ?_
  refine xw_go xb_157 1 (f1 := (17, [.ref 60, .int (nI o), .int (nI n), .float 0], [.ref 60])) (h1 := (xS b, va_up (va_up (va_up I 62 X1) 63 X2) 61 Y, L, xP b)) rfl trivial ?_
  refine xw_call xb_157 rfl rfl rfl rfl rfl (Or.inr ⟨_, _, rfl, rfl⟩) (m_wrongOnes (I := (va_up (va_up (va_up I 62 X1) 63 X2) 61 Y)) (N := (xgoN N (xfa N o (N 5)) n)) (fun k hk => hY k hk) (xgoN_ok hO _ bn)) ?_
  rintro _ _ ⟨rfl, rfl⟩
  refine xw_at (f' := (20, [.ref 60, .int (nI o), .int (nI n), .float 0], [.int (nI (xwc (xgoN N (xfa N o (N 5)) n)))])) (h' := (xS b, va_up (va_up (va_up I 62 X1) 63 X2) 61 Y, L, xP b)) rfl rfl ?_
  refine xw_go xb_157 2 (f1 := (22, [.ref 60, .int (nI o), .int (nI n), .int (nI (xwc (xgoN N (xfa N o (N 5)) n)))], [.ref 60])) (h1 := (xS b, va_up (va_up (va_up I 62 X1) 63 X2) 61 Y, L, xP b)) rfl trivial ?_
  refine xw_call xb_157 rfl rfl rfl rfl rfl (Or.inr ⟨_, _, rfl, rfl⟩) (m_backs (I := (va_up (va_up (va_up I 62 X1) 63 X2) 61 Y))) ?_
  rintro _ _ ⟨rfl, rfl⟩
  refine xw_at (f' := (25, [.ref 60, .int (nI o), .int (nI n), .int (nI (xwc (xgoN N (xfa N o (N 5)) n)))], [])) (h' := (xS b, va_up (va_up (va_up (va_up I 62 X1) 63 X2) 61 Y) 61 (xfil 159 ((va_up (va_up (va_up I 62 X1) 63 X2) 61 Y) 68) ((va_up (va_up (va_up I 62 X1) 63 X2) 61 Y) 61)), L, xP b)) rfl rfl ?_
  refine xw_go xb_157 1 (f1 := (26, [.ref 60, .int (nI o), .int (nI n), .int (nI (xwc (xgoN N (xfa N o (N 5)) n)))], [.int (nI (xwc (xgoN N (xfa N o (N 5)) n)))])) (h1 := (xS b, va_up (va_up (va_up (va_up I 62 X1) 63 X2) 61 Y) 61 (xfil 159 ((va_up (va_up (va_up I 62 X1) 63 X2) 61 Y) 68) ((va_up (va_up (va_up I 62 X1) 63 X2) 61 Y) 61)), L, xP b)) rfl trivial ?_
  refine xw_ret xb_157 rfl rfl trivial ?_
  refine ⟨rfl, _, rfl, fun a ha => ?_, fun k hk => ?_⟩
  · simp only [List.mem_cons, List.not_mem_nil, or_false, not_or] at ha
    rw [xm_vu_o ha.1, xm_vu_o ha.1, xm_vu_o ha.2.2, xm_vu_o ha.2.1]
  · show xfil 159 (I 68) Y k = _
    simp only [xfil]
    rw [if_pos hk]

