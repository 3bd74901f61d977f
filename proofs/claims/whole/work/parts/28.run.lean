/-! ===== the class: a minute with a set of sprinklers on; the plot as a row of numbers ===== -/
/-- the plot at cell p holds the row N: 0 rows, 1 columns, 2 sprinklers, 3 who is on, 4 the minute, 5 wind, 6 tap, 7 least, 8 most, 9 runoff, 10 the draw, 11 .. 30 sprinklers, 31 .. 94 soil, 95 .. 158 wet -/
def xPN (N : Nat → Nat) (p : Nat) (I : Nat → Nat → Int32) : Prop :=
  (I p 0 = nI (N 0) ∧ I p 1 = nI (N 1) ∧ I p 5 = nI (N 2) ∧ I p 6 = nI (N 3) ∧ I p 11 = nI (N 4) ∧ I p 7 = nI (N 5) ∧ I p 8 = nI (N 6) ∧ I p 9 = nI (N 7) ∧ I p 10 = nI (N 8) ∧ I p 12 = nI (N 9) ∧ I p 13 = nI (N 10)) ∧
  (∀ c, c < 64 → I (p + 1) c = nI (N (31 + c))) ∧ (∀ c, c < 64 → I (p + 2) c = nI (N (95 + c))) ∧ ∀ i, i < N 2 → ∀ f, f < 4 → I (p + 14 + i) f = nI (N (11 + 4 * i + f))
def xOK (N : Nat → Nat) : Prop :=
  (2 ≤ N 0 ∧ N 0 ≤ 8 ∧ 2 ≤ N 1 ∧ N 1 ≤ 8 ∧ N 2 ≤ 5 ∧ N 3 < 2 ^ N 2 ∧ N 4 < 1000000 ∧ N 5 ≤ 3 ∧ 1 ≤ N 6 ∧ N 6 ≤ 5 ∧ N 7 ≤ 999 ∧ N 8 ≤ 999 ∧ N 9 ≤ 999999 ∧ N 10 < 2 ^ 31) ∧
  (∀ c, c < 64 → N (31 + c) < 3) ∧ (∀ c, c < 64 → N (95 + c) ≤ 9999) ∧ ∀ i, i < N 2 → N (11 + 4 * i) < 5 ∧ N (12 + 4 * i) < N 0 * N 1 ∧ N (13 + 4 * i) < 5 ∧ 1 ≤ N (14 + 4 * i) ∧ N (14 + 4 * i) < 10
/-- what sprinkler p throws on the cell of row r, column q -/
def xth (N : Nat → Nat) (p r q : Nat) : Nat := xs_thr (N (11 + 4 * p)) (N (13 + 4 * p)) (N (14 + 4 * p)) r (N (12 + 4 * p) / N 1) q (N (12 + 4 * p) % N 1)
/-- what falls on cell j of the first n sprinklers, those of o on, wind wi -/
def xfaP (N : Nat → Nat) (o wi n j : Nat) : Nat := if wi ≤ j % N 1 then xsum (fun p => if o.testBit p then xth N p (j / N 1) (j % N 1 - wi) else 0) n else 0
def xfa (N : Nat → Nat) (o wi j : Nat) : Nat := xfaP N o wi (N 2) j
def xso (N : Nat → Nat) (c : Nat) : Nat := N (31 + c)
def xwe (N : Nat → Nat) (c : Nat) : Nat := N (95 + c)
def xta (N : Nat → Nat) (o wi j : Nat) : Nat := xtk (xfa N o wi) (xso N) (N 1) j
def xlo (N : Nat → Nat) (o wi : Nat) : Nat := xlost (xfa N o wi) (xso N) (N 0) (N 1)
def xce (N : Nat → Nat) : Nat := N 0 * N 1
theorem xs_thr_le {k re w r r0 q q0 : Nat} (h : w < 10) : xs_thr k re w r r0 q q0 ≤ 36 := by
  unfold xs_thr
  (repeat' split) <;> omega
theorem xfaP_le {N : Nat → Nat} {o wi n : Nat} (hw : ∀ i, i < n → N (14 + 4 * i) < 10) (hn : n ≤ 5) (j : Nat) : xfaP N o wi n j ≤ 180 := by
  unfold xfaP
  split
  · have h1 : xsum (fun p => if o.testBit p then xth N p (j / N 1) (j % N 1 - wi) else 0) n ≤ n * 36 := by
      refine xsum_le fun p hp => ?_
      split
      · exact xs_thr_le (hw p hp)
      · omega
    omega
  · omega
theorem xfa_le {N : Nat → Nat} (hO : xOK N) (o wi j : Nat) : xfa N o wi j ≤ 180 := xfaP_le (fun i hi => (hO.2.2.2 i hi).2.2.2.2) hO.1.2.2.2.2.1 j
theorem xta_le {N : Nat → Nat} (hO : xOK N) {o wi j : Nat} (hj : j < xce N) : xta N o wi j ≤ 1620 := by
  have h1 := xtk_le (so := xso N) (R := N 0) (C := N 1) (M := 180) (fun j _ => xfa_le hO o wi j) hj (by have := hO.1; omega)
  have h2 : (N 0 + 1) * 180 ≤ 9 * 180 := Nat.mul_le_mul_right 180 (by have := hO.1; omega)
  unfold xta
  omega
theorem xlo_le {N : Nat → Nat} (hO : xOK N) (o wi : Nat) : xlo N o wi ≤ 11520 := by
  have hb := hO.1
  have h1 : xlo N o wi ≤ N 1 * 1440 := by
    refine xsum_le fun q hq => ?_
    have := xro_le (so := xso N) (R := N 0) (C := N 1) (M := 180) (fun j _ => xfa_le hO o wi j) (N 0) q (Nat.le_refl _) hq
    have h2 : N 0 * 180 ≤ 8 * 180 := Nat.mul_le_mul_right 180 (by omega)
    omega
  have h3 : N 1 * 1440 ≤ 8 * 1440 := Nat.mul_le_mul_right 1440 (by omega)
  omega
theorem xce_le {N : Nat → Nat} (hO : xOK N) : xce N ≤ 64 := xmul64 (by have := hO.1; omega) (by have := hO.1; omega)
theorem xce_ge {N : Nat → Nat} (hO : xOK N) : 4 ≤ xce N := by
  have hb := hO.1
  have : 2 * 2 ≤ N 0 * N 1 := Nat.mul_le_mul (by omega) (by omega)
  exact this
theorem xP_4 {b : Bool} {p : Nat} (h : p < 5) : xP b 4 p = some (15 + p) := by
  match p, h with
  | 0, _ => rfl
  | 1, _ => rfl
  | 2, _ => rfl
  | 3, _ => rfl
  | 4, _ => rfl
theorem xS_15 {b : Bool} {p : Nat} (h : p < 5) : (xS b)[15 + p]? = some (11, 4) := by
  match p, h with
  | 0, _ => rfl
  | 1, _ => rfl
  | 2, _ => rfl
  | 3, _ => rfl
  | 4, _ => rfl
set_option maxHeartbeats 4000000 in
theorem c_run {d : Nat} {b : Bool} {I : Nat → Nat → Int32} {L : Nat → Nat → Int64} {N : Nat → Nat} (hN : xPN N 1 I) (hO : xOK N) {o wi : Nat} (bo : o < 32) (bwi : wi < 4) {x1 x2 : Int32} (e1 : x1 = nI o) (e2 : x2 = nI wi) : xm_Z (d + 4) 31 [.ref 20, .ref 1, .int x1, .int x2] (xS b, I, L, xP b) (fun rz hz => rz = none ∧ ∃ F X T, (∀ j, j < xce N → F j = nI (xfa N o wi j)) ∧ (∀ j, j < xce N → T j = nI (xta N o wi j)) ∧ hz = (xS b, xm_up (va_up (va_up (va_up I 21 F) 23 X) 22 T) 20 3 (nI (xlo N o wi)), L, xP b)) := by
  subst e1
  subst e2
  have hb := hO.1
  have hR : I 1 0 = nI (N 0) := hN.1.1
  have hC : I 1 1 = nI (N 1) := hN.1.2.1
  have hn : I 1 5 = nI (N 2) := hN.1.2.2.1
  have hsp : ∀ i, i < N 2 → ∀ f, f < 4 → I (15 + i) f = nI (N (11 + 4 * i + f)) := hN.2.2.2
  have h64 : N 0 * N 1 ≤ 64 := xce_le hO
  have hs0 : ∀ i, i < N 2 → I (15 + i) 0 = nI (N (11 + 4 * i)) := fun i hi => hsp i hi 0 (by decide)
  have hs1 : ∀ i, i < N 2 → I (15 + i) 1 = nI (N (12 + 4 * i)) := fun i hi => by have := hsp i hi 1 (by decide); rwa [show 11 + 4 * i + 1 = 12 + 4 * i by omega] at this
  have hs2 : ∀ i, i < N 2 → I (15 + i) 2 = nI (N (13 + 4 * i)) := fun i hi => by have := hsp i hi 2 (by decide); rwa [show 11 + 4 * i + 2 = 13 + 4 * i by omega] at this
  have hs3 : ∀ i, i < N 2 → I (15 + i) 3 = nI (N (14 + 4 * i)) := fun i hi => by have := hsp i hi 3 (by decide); rwa [show 11 + 4 * i + 3 = 14 + 4 * i by omega] at this
  refine xw_S xb_31 (Nat.le_of_ble_eq_true rfl) rfl ?_
  refine xw_go xb_31 3 rfl ⟨rfl, trivial⟩ ?_
  refine xw_call xb_31 rfl rfl rfl rfl rfl (Or.inl rfl) (c_fill (n := 64) rfl (by decide)) ?_
  rintro _ _ ⟨rfl, rfl⟩
  refine xw_go xb_31 2 rfl trivial ?_
  refine xw_cong (l' := [.ref 20, .ref 1, .int (nI o), .int (nI wi), .int (nI 0)]) rfl rfl (h' := (xS b, va_up I 21 (xfil (N 0 * N 1) (fun j => nI (xfaP N o wi 0 j)) (xfil 64 (fun _ => 0) (I 21))), L, xP b)) ?_ ?_
  · have e9 : (xfil (N 0 * N 1) (fun j => nI (xfaP N o wi 0 j)) (xfil 64 (fun _ => 0) (I 21))) = xfil 64 (fun _ => 0) (I 21) := by
      funext j
      simp only [xfil]
      by_cases hj : j < N 0 * N 1
      · rw [if_pos hj, if_pos (by omega)]
        unfold xfaP
        split <;> rfl
      · rw [if_neg hj]
    rw [e9]
  refine xw_loop (N 2) (fun p => (11, [.ref 20, .ref 1, .int (nI o), .int (nI wi), .int (nI p)], [])) (fun p => (xS b, va_up I 21 (xfil (N 0 * N 1) (fun j => nI (xfaP N o wi p j)) (xfil 64 (fun _ => 0) (I 21))), L, xP b)) (fun p hp ih => ?_) ?_ 0 (Nat.zero_le _)
  · have h1 := hO.2.2.2 p hp
    have hp5 : p < 5 := by omega
    refine xw_go xb_31 4 rfl ⟨rfl, trivial⟩ ?_
    refine xw_if (fun c_17 => ?_) (fun c_17 => ?_)
    · skip
      exfalso
      change I 1 5 ≤ nI p at c_17
      simp (disch := omega) only [hn, nI_leI] at c_17
      omega
    · skip
      refine xw_go xb_31 7 rfl trivial ?_
      refine xw_if (fun c_27 => ?_) (fun c_27 => ?_)
      · skip
        refine xw_go xb_31 2 rfl trivial ?_
        refine xw_cong ?_ rfl ?_ ih
        · show [Value.ref 20, .ref 1, .int (nI o), .int (nI wi), .int (nI p + 1)] = _
          rw [nI_1]
        · have hbit : o.testBit p = false := by simpa using fun z => c_27 ((xbit5 o bo p hp5).mpr z)
          show (xS b, (va_up I 21 (xfil (N 0 * N 1) (fun j => nI (xfaP N o wi p j)) (xfil 64 (fun _ => 0) (I 21)))), L, xP b) = (xS b, va_up I 21 (xfil (N 0 * N 1) (fun j => nI (xfaP N o wi (p + 1) j)) (xfil 64 (fun _ => 0) (I 21))), L, xP b)
          have e9 : (xfil (N 0 * N 1) (fun j => nI (xfaP N o wi p j)) (xfil 64 (fun _ => 0) (I 21))) = (xfil (N 0 * N 1) (fun j => nI (xfaP N o wi (p + 1) j)) (xfil 64 (fun _ => 0) (I 21))) := by
            funext j
            simp only [xfil]
            by_cases hj : j < N 0 * N 1
            · rw [if_pos hj, if_pos hj]
              unfold xfaP
              simp only [xsum, hbit]
              simp
            · rw [if_neg hj, if_neg hj]
          rw [e9]
      · skip
        refine xw_go xb_31 6 rfl ⟨rfl, (xn_ar (N := 5) rfl (by omega) (by decide)), ⟨Nat.le_of_ble_eq_true rfl, Nat.le_of_ble_eq_true rfl⟩, trivial⟩ ?_
        refine xw_cong rfl (st' := [.ref (15 + p), .ref 1, .ref 20]) ?_ rfl ?_
        · show [xm_o (xP b 4 (nI p).toNatClampNeg), .ref 1, .ref 20] = _
          rw [xn_cl (by omega), xP_4 hp5]
          rfl
        refine xw_go xb_31 4 rfl ⟨rfl, (xn_ar (N := 5) rfl (by omega) (by decide)), ⟨Nat.le_of_ble_eq_true rfl, Nat.le_of_ble_eq_true rfl⟩, trivial⟩ ?_
        refine xw_cong rfl (st' := [.ref (15 + p), .ref (15 + p), .ref 1, .ref 20]) ?_ rfl ?_
        · show [xm_o (xP b 4 (nI p).toNatClampNeg), .ref (15 + p), .ref 1, .ref 20] = _
          rw [xn_cl (by omega), xP_4 hp5]
          rfl
        refine xw_go xb_31 2 rfl ⟨(xS_15 hp5), trivial⟩ ?_
        refine xw_call xb_31 rfl rfl rfl rfl rfl (Or.inr ⟨_, _, rfl, rfl⟩) (c_addFrom (I := (va_up I 21 (xfil (N 0 * N 1) (fun j => nI (xfaP N o wi p j)) (xfil 64 (fun _ => 0) (I 21))))) (R := N 0) (C := N 1) hR hC (by omega) (by omega) (by omega) (xS_15 (by omega)) (by show va_up I 21 _ (15 + p) 0 = _; rw [xm_vu_o (by omega)]; exact hs0 p hp) (by show va_up I 21 _ (15 + p) 2 = _; rw [xm_vu_o (by omega)]; exact hs2 p hp) (by show va_up I 21 _ (15 + p) 3 = _; rw [xm_vu_o (by omega)]; exact hs3 p hp) h1.1 h1.2.2.1 h1.2.2.2.2 (pl := N (12 + 4 * p)) (wi := wi) h1.2.1 bwi (fv := xfaP N o wi p) (fun j hj => by show va_up I 21 _ 21 j = _; simp only [va_up, if_true, xfil]; rw [if_pos hj]) (by show va_up I 21 _ (15 + p) 1 = _; rw [xm_vu_o (by omega)]; exact hs1 p hp) rfl) ?_
        rintro _ _ ⟨rfl, rfl⟩
        refine xw_go xb_31 2 rfl trivial ?_
        refine xw_cong ?_ rfl ?_ ih
        · show [Value.ref 20, .ref 1, .int (nI o), .int (nI wi), .int (nI p + 1)] = _
          rw [nI_1]
        · have hbit : o.testBit p = true := (xbit5 o bo p hp5).mp (Classical.not_not.mp c_27)
          show (xS b, va_up (va_up I 21 (xfil (N 0 * N 1) (fun j => nI (xfaP N o wi p j)) (xfil 64 (fun _ => 0) (I 21)))) 21 (xdn wi (N 1) (N 0 * N 1) (fun j => nI (xfaP N o wi p j + xs_thr (N (11 + 4 * p)) (N (13 + 4 * p)) (N (14 + 4 * p)) (j / N 1) (N (12 + 4 * p) / N 1) (j % N 1 - wi) (N (12 + 4 * p) % N 1))) ((va_up I 21 (xfil (N 0 * N 1) (fun j => nI (xfaP N o wi p j)) (xfil 64 (fun _ => 0) (I 21)))) 21)), L, xP b) = _
          rw [xvv_s]
          have e9 : (xdn wi (N 1) (N 0 * N 1) (fun j => nI (xfaP N o wi p j + xs_thr (N (11 + 4 * p)) (N (13 + 4 * p)) (N (14 + 4 * p)) (j / N 1) (N (12 + 4 * p) / N 1) (j % N 1 - wi) (N (12 + 4 * p) % N 1))) ((va_up I 21 (xfil (N 0 * N 1) (fun j => nI (xfaP N o wi p j)) (xfil 64 (fun _ => 0) (I 21)))) 21)) = (xfil (N 0 * N 1) (fun j => nI (xfaP N o wi (p + 1) j)) (xfil 64 (fun _ => 0) (I 21))) := by
            funext j
            show (if wi ≤ j % N 1 ∧ j < N 0 * N 1 then _ else (xfil (N 0 * N 1) (fun j => nI (xfaP N o wi p j)) (xfil 64 (fun _ => 0) (I 21))) j) = _
            simp only [xfil]
            by_cases hj : j < N 0 * N 1
            · rw [if_pos hj, if_pos hj]
              unfold xfaP xth
              simp only [xsum, hbit, if_true]
              by_cases hw : wi ≤ j % N 1
              · simp only [hw, hj, and_self, if_true]
              · simp only [hw, hj, false_and, if_false]
            · simp only [hj, and_false, if_false]
          rw [e9]
  · skip
    refine xw_go xb_31 4 rfl ⟨rfl, trivial⟩ ?_
    refine xw_if (fun c_17 => ?_) (fun c_17 => ?_)
    · skip
      refine xw_go xb_31 2 rfl trivial ?_
      refine xw_call xb_31 rfl rfl rfl rfl rfl (Or.inr ⟨_, _, rfl, rfl⟩) (c_share (I := va_up I 21 (xfil (N 0 * N 1) (fun j => nI (xfaP N o wi (N 2) j)) (xfil 64 (fun _ => 0) (I 21)))) (R := N 0) (C := N 1) hR hC (by omega) (by omega) (by omega) (so := xso N) (fun c hc => hN.2.1 c hc) (fun c hc => hO.2.1 c hc) (fv := xfa N o wi) (fun j hj => by show va_up I 21 _ 21 j = _; simp only [va_up, if_true, xfil]; rw [if_pos hj]; rfl) (fun j hj => by have := xfa_le hO o wi j; omega)) ?_
      rintro _ _ ⟨rfl, X, rfl⟩
      refine xw_ret xb_31 rfl rfl trivial ?_
      refine ⟨rfl, _, X, _, ?_, ?_, rfl⟩
      · intro j hj
        simp only [xfil]
        rw [if_pos (show j < N 0 * N 1 from hj)]
        rfl
      · intro j hj
        simp only [xfil]
        rw [if_pos (show j < N 0 * N 1 from hj)]
        rfl
    · skip
      exfalso
      change ¬ I 1 5 ≤ nI (N 2) at c_17
      simp (disch := omega) only [hn, nI_leI] at c_17
      omega
