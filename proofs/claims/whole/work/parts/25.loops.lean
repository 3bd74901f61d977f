/-! ===== the class: the plot, loops ===== -/
theorem c_wrongIn {d : Nat} {b : Bool} {I : Nat → Nat → Int32} {L : Nat → Nat → Int64} {R C : Nat} (hR : I 1 0 = nI R) (hC : I 1 1 = nI C) (bR : R ≤ 8) (bC : C ≤ 8) {so wt : Nat → Nat} (hs : ∀ c, c < 64 → I 2 c = nI (so c)) (bs : ∀ c, c < 64 → so c < 3) {w : Nat} (hw : (xS b)[w]? = some (0, 64)) (hwt : ∀ c, c < R * C → I w c = nI (wt c)) (bwt : ∀ c, c < R * C → wt c < 2 ^ 31) {le : Nat} (hl : I 1 9 = nI le) (bl : le < 2 ^ 31) {mo : Nat} (hm : I 1 10 = nI mo) (bm : mo < 2 ^ 31)  : xm_Z (d + 3) 57 [.ref 1, .ref w] (xS b, I, L, xP b) (fun rz hz => rz = some (.int (nI (xcnt (fun c => xs_wrong (so c) (wt c) le mo) (R * C)))) ∧ hz = (xS b, I, L, xP b)) := by
  have h64 := xmul64 bR bC
  refine xw_S xb_57 (Nat.le_of_ble_eq_true rfl) rfl ?_
  refine xw_go xb_57 5 rfl trivial ?_
  refine xw_call xb_57 rfl rfl rfl rfl rfl (Or.inr ⟨_, _, rfl, rfl⟩) (c_cells hR hC) ?_
  rintro _ _ ⟨rfl, rfl⟩
  refine xw_go xb_57 1 rfl trivial ?_
  refine xw_loop (R * C) (fun c => (10, [.ref 1, .ref w, .int (nI (xcnt (fun c => xs_wrong (so c) (wt c) le mo) c)), .int (nI c), .int (nI (R * C))], [])) (fun c => (xS b, I, L, xP b)) (fun c hc ih => ?_) ?_ 0 (Nat.zero_le _)
  · skip
    refine xw_go xb_57 3 rfl trivial ?_
    refine xw_if (fun c_13 => ?_) (fun c_13 => ?_)
    · skip
      exfalso
      simp (disch := omega) only [nI_leI] at c_13
      omega
    · skip
      refine xw_go xb_57 5 rfl ⟨(xn_ar hw (by omega) (by decide)), trivial⟩ ?_
      refine xw_call xb_57 rfl rfl rfl rfl rfl (Or.inr ⟨_, _, rfl, rfl⟩) (c_isWrong (hs c (by omega)) (by omega) (bs c (by omega)) hl hm (bwt c hc) bl bm rfl (by show I w (nI c).toNatClampNeg = _; rw [xn_cl (by omega)]; exact hwt c hc)) ?_
      rintro _ _ ⟨rfl, rfl⟩
      refine xw_go xb_57 1 rfl trivial ?_
      refine xw_if (fun c_24 => ?_) (fun c_24 => ?_)
      · skip
        refine xw_go xb_57 2 rfl trivial ?_
        refine xw_cong ?_ rfl rfl ih
        have h9 := xcnt_le (fun c => xs_wrong (so c) (wt c) le mo) c
        simp only [xB_eq0] at c_24
        show [Value.ref 1, .ref w, _, .int (nI c + 1), .int (nI (R * C))] = [Value.ref 1, .ref w, .int (nI (xcnt (fun c => xs_wrong (so c) (wt c) le mo) (c + 1))), .int (nI (c + 1)), .int (nI (R * C))]
        rw [nI_1 c]
        show [Value.ref 1, .ref w, .int _, _, _] = _
        congr 3
        simp only [xcnt]
        first | (rw [c_24]; rfl) | (rw [show xs_wrong (so c) (wt c) le mo = true by simpa using c_24]; exact congrArg Value.int (nI_1 _))
      · skip
        refine xw_go xb_57 3 rfl trivial ?_
        refine xw_cong ?_ rfl rfl ih
        have h9 := xcnt_le (fun c => xs_wrong (so c) (wt c) le mo) c
        simp only [xB_eq0] at c_24
        show [Value.ref 1, .ref w, _, .int (nI c + 1), .int (nI (R * C))] = [Value.ref 1, .ref w, .int (nI (xcnt (fun c => xs_wrong (so c) (wt c) le mo) (c + 1))), .int (nI (c + 1)), .int (nI (R * C))]
        rw [nI_1 c]
        show [Value.ref 1, .ref w, .int _, _, _] = _
        congr 3
        simp only [xcnt]
        first | (rw [c_24]; rfl) | (rw [show xs_wrong (so c) (wt c) le mo = true by simpa using c_24]; exact congrArg Value.int (nI_1 _))
  · skip
    refine xw_go xb_57 3 rfl trivial ?_
    refine xw_if (fun c_13 => ?_) (fun c_13 => ?_)
    · skip
      refine xw_go xb_57 1 rfl trivial ?_
      refine xw_ret xb_57 rfl rfl trivial ?_
      exact ⟨rfl, rfl⟩
    · skip
      exfalso
      simp (disch := omega) only [nI_leI] at c_13
      omega

theorem c_dryIn {d : Nat} {b : Bool} {I : Nat → Nat → Int32} {L : Nat → Nat → Int64} {R C : Nat} (hR : I 1 0 = nI R) (hC : I 1 1 = nI C) (bR : R ≤ 8) (bC : C ≤ 8) {so wt : Nat → Nat} (hs : ∀ c, c < 64 → I 2 c = nI (so c)) (bs : ∀ c, c < 64 → so c < 3) {w : Nat} (hw : (xS b)[w]? = some (0, 64)) (hwt : ∀ c, c < R * C → I w c = nI (wt c)) (bwt : ∀ c, c < R * C → wt c < 2 ^ 31) {le : Nat} (hl : I 1 9 = nI le) (bl : le < 2 ^ 31)  : xm_Z (d + 3) 75 [.ref 1, .ref w] (xS b, I, L, xP b) (fun rz hz => rz = some (.int (nI (xcnt (fun c => xs_dry (so c) (wt c) le) (R * C)))) ∧ hz = (xS b, I, L, xP b)) := by
  have h64 := xmul64 bR bC
  refine xw_S xb_75 (Nat.le_of_ble_eq_true rfl) rfl ?_
  refine xw_go xb_75 5 rfl trivial ?_
  refine xw_call xb_75 rfl rfl rfl rfl rfl (Or.inr ⟨_, _, rfl, rfl⟩) (c_cells hR hC) ?_
  rintro _ _ ⟨rfl, rfl⟩
  refine xw_go xb_75 1 rfl trivial ?_
  refine xw_loop (R * C) (fun c => (10, [.ref 1, .ref w, .int (nI (xcnt (fun c => xs_dry (so c) (wt c) le) c)), .int (nI c), .int (nI (R * C))], [])) (fun c => (xS b, I, L, xP b)) (fun c hc ih => ?_) ?_ 0 (Nat.zero_le _)
  · skip
    refine xw_go xb_75 3 rfl trivial ?_
    refine xw_if (fun c_13 => ?_) (fun c_13 => ?_)
    · skip
      exfalso
      simp (disch := omega) only [nI_leI] at c_13
      omega
    · skip
      refine xw_go xb_75 5 rfl ⟨(xn_ar hw (by omega) (by decide)), trivial⟩ ?_
      refine xw_call xb_75 rfl rfl rfl rfl rfl (Or.inr ⟨_, _, rfl, rfl⟩) (c_isDry (hs c (by omega)) (by omega) (bs c (by omega)) hl (bwt c hc) bl rfl (by show I w (nI c).toNatClampNeg = _; rw [xn_cl (by omega)]; exact hwt c hc)) ?_
      rintro _ _ ⟨rfl, rfl⟩
      refine xw_go xb_75 1 rfl trivial ?_
      refine xw_if (fun c_24 => ?_) (fun c_24 => ?_)
      · skip
        refine xw_go xb_75 2 rfl trivial ?_
        refine xw_cong ?_ rfl rfl ih
        have h9 := xcnt_le (fun c => xs_dry (so c) (wt c) le) c
        simp only [xB_eq0] at c_24
        show [Value.ref 1, .ref w, _, .int (nI c + 1), .int (nI (R * C))] = [Value.ref 1, .ref w, .int (nI (xcnt (fun c => xs_dry (so c) (wt c) le) (c + 1))), .int (nI (c + 1)), .int (nI (R * C))]
        rw [nI_1 c]
        show [Value.ref 1, .ref w, .int _, _, _] = _
        congr 3
        simp only [xcnt]
        first | (rw [c_24]; rfl) | (rw [show xs_dry (so c) (wt c) le = true by simpa using c_24]; exact congrArg Value.int (nI_1 _))
      · skip
        refine xw_go xb_75 3 rfl trivial ?_
        refine xw_cong ?_ rfl rfl ih
        have h9 := xcnt_le (fun c => xs_dry (so c) (wt c) le) c
        simp only [xB_eq0] at c_24
        show [Value.ref 1, .ref w, _, .int (nI c + 1), .int (nI (R * C))] = [Value.ref 1, .ref w, .int (nI (xcnt (fun c => xs_dry (so c) (wt c) le) (c + 1))), .int (nI (c + 1)), .int (nI (R * C))]
        rw [nI_1 c]
        show [Value.ref 1, .ref w, .int _, _, _] = _
        congr 3
        simp only [xcnt]
        first | (rw [c_24]; rfl) | (rw [show xs_dry (so c) (wt c) le = true by simpa using c_24]; exact congrArg Value.int (nI_1 _))
  · skip
    refine xw_go xb_75 3 rfl trivial ?_
    refine xw_if (fun c_13 => ?_) (fun c_13 => ?_)
    · skip
      refine xw_go xb_75 1 rfl trivial ?_
      refine xw_ret xb_75 rfl rfl trivial ?_
      exact ⟨rfl, rfl⟩
    · skip
      exfalso
      simp (disch := omega) only [nI_leI] at c_13
      omega

theorem c_wetTogether {d : Nat} {b : Bool} {I : Nat → Nat → Int32} {L : Nat → Nat → Int64} {R C : Nat} (hR : I 1 0 = nI R) (hC : I 1 1 = nI C) (bR : R ≤ 8) (bC : C ≤ 8) {wt : Nat → Nat} (hwt : ∀ c, c < R * C → I 3 c = nI (wt c))  : xm_Z (d + 2) 56 [.ref 1] (xS b, I, L, xP b) (fun rz hz => rz = some (.int (nI (xsum wt (R * C)))) ∧ hz = (xS b, I, L, xP b)) := by
  have h64 := xmul64 bR bC
  refine xw_S xb_56 (Nat.le_of_ble_eq_true rfl) rfl ?_
  refine xw_go xb_56 5 rfl trivial ?_
  refine xw_call xb_56 rfl rfl rfl rfl rfl (Or.inr ⟨_, _, rfl, rfl⟩) (c_cells hR hC) ?_
  rintro _ _ ⟨rfl, rfl⟩
  refine xw_go xb_56 1 rfl trivial ?_
  refine xw_loop (R * C) (fun c => (9, [.ref 1, .int (nI (xsum wt c)), .int (nI c), .int (nI (R * C))], [])) (fun c => (xS b, I, L, xP b)) (fun c hc ih => ?_) ?_ 0 (Nat.zero_le _)
  · skip
    refine xw_go xb_56 3 rfl trivial ?_
    refine xw_if (fun c_11 => ?_) (fun c_11 => ?_)
    · skip
      exfalso
      simp (disch := omega) only [nI_leI] at c_11
      omega
    · skip
      refine xw_go xb_56 9 rfl ⟨rfl, (xn_ar (N := 64) rfl (by omega) (by decide)), trivial⟩ ?_
      refine xw_cong ?_ rfl rfl ih
      show [Value.ref 1, .int (nI (xsum wt c) + I 3 (nI c).toNatClampNeg), .int (nI c + 1), .int (nI (R * C))] = [Value.ref 1, .int (nI (xsum wt (c + 1))), .int (nI (c + 1)), .int (nI (R * C))]
      rw [xn_cl (by omega), hwt c hc, nI_add, nI_1]
      rfl
  · skip
    refine xw_go xb_56 3 rfl trivial ?_
    refine xw_if (fun c_11 => ?_) (fun c_11 => ?_)
    · skip
      refine xw_go xb_56 1 rfl trivial ?_
      refine xw_ret xb_56 rfl rfl trivial ?_
      exact ⟨rfl, rfl⟩
    · skip
      exfalso
      simp (disch := omega) only [nI_leI] at c_11
      omega

theorem c_soak {d : Nat} {b : Bool} {I : Nat → Nat → Int32} {L : Nat → Nat → Int64} {R C : Nat} (hR : I 1 0 = nI R) (hC : I 1 1 = nI C) (bR : R ≤ 8) (bC : C ≤ 8) {fr ta to m : Nat} (h1 : (xS b)[fr]? = some (0, 64)) (h2 : (xS b)[ta]? = some (0, 64)) (h3 : (xS b)[to]? = some (0, 64)) (hne : ta ≠ to) {wv tv : Nat → Nat} (hw : ∀ c, c < R * C → I fr c = nI (wv c)) (ht : ∀ c, c < R * C → I ta c = nI (tv c)) (bw : ∀ c, c < R * C → wv c < 100000) (bt : ∀ c, c < R * C → tv c < 10000) (bm : m < 1000)  {x1 : Int32} (e_x1 : x1 = nI m) : xm_Z (d + 2) 62 [.ref 1, .ref fr, .ref ta, .int x1, .ref to] (xS b, I, L, xP b) (fun rz hz => rz = none ∧ hz = (xS b, va_up I to (xfil (R * C) (fun c => nI (min 9999 (wv c + m * tv c))) (I to)), L, xP b)) := by
  subst e_x1
  have h64 := xmul64 bR bC
  refine xw_S xb_62 (Nat.le_of_ble_eq_true rfl) rfl ?_
  refine xw_go xb_62 3 rfl trivial ?_
  refine xw_call xb_62 rfl rfl rfl rfl rfl (Or.inr ⟨_, _, rfl, rfl⟩) (c_cells hR hC) ?_
  rintro _ _ ⟨rfl, rfl⟩
  refine xw_go xb_62 1 rfl trivial ?_
  refine xw_cong rfl rfl (show (xS b, I, L, xP b) = (xS b, va_up I to (xfil 0 (fun c => nI (min 9999 (wv c + m * tv c))) (I to)), L, xP b) by rw [xfil_0, xm_up_id]) ?_
  refine xw_loop (R * C) (fun c => (9, [.ref 1, .ref fr, .ref ta, .int (nI m), .ref to, .int (nI c), .int (nI (R * C))], [])) (fun c => (xS b, va_up I to (xfil c (fun c => nI (min 9999 (wv c + m * tv c))) (I to)), L, xP b)) (fun c hc ih => ?_) ?_ 0 (Nat.zero_le _)
  · skip
    refine xw_go xb_62 3 rfl trivial ?_
    refine xw_if (fun c_13 => ?_) (fun c_13 => ?_)
    · skip
      exfalso
      simp (disch := omega) only [nI_leI] at c_13
      omega
    · skip
      refine xw_go xb_62 16 rfl ⟨(xn_ar h1 (by omega) (by decide)), (xn_ar h2 (by omega) (by decide)), Nat.le_of_ble_eq_true rfl, (xn_ar h3 (by omega) (by decide)), trivial⟩ ?_
      refine xw_cong ?_ rfl ?_ ih
      · show [Value.ref 1, .ref fr, .ref ta, .int (nI m), .ref to, .int (nI c + 1), .int (nI (R * C))] = _
        rw [nI_1]
      · have q1 := bw c hc
        have q2 := bt c hc
        have q3 : m * tv c < 10000000 := Nat.lt_of_lt_of_le (Nat.mul_lt_mul'' bm q2) (by decide)
        have e1 : va_up I to (xfil c (fun c => nI (min 9999 (wv c + m * tv c))) (I to)) fr c = nI (wv c) := by
          by_cases hf : fr = to
          · subst hf
            simp only [va_up, if_true, xfil, Nat.lt_irrefl, if_false]
            exact hw c hc
          · simp only [va_up, hf, if_false]
            exact hw c hc
        have e2 : va_up I to (xfil c (fun c => nI (min 9999 (wv c + m * tv c))) (I to)) ta c = nI (tv c) := by
          simp only [va_up, hne, if_false]
          exact ht c hc
        show (xS b, xm_up (va_up I to (xfil c (fun c => nI (min 9999 (wv c + m * tv c))) (I to))) to (nI c).toNatClampNeg (if va_up I to (xfil c (fun c => nI (min 9999 (wv c + m * tv c))) (I to)) fr (nI c).toNatClampNeg + nI m * va_up I to (xfil c (fun c => nI (min 9999 (wv c + m * tv c))) (I to)) ta (nI c).toNatClampNeg < 9999 then va_up I to (xfil c (fun c => nI (min 9999 (wv c + m * tv c))) (I to)) fr (nI c).toNatClampNeg + nI m * va_up I to (xfil c (fun c => nI (min 9999 (wv c + m * tv c))) (I to)) ta (nI c).toNatClampNeg else 9999), L, xP b) = _
        rw [xn_cl (by omega), e1, e2, pk_mul, nI_add, xl_9999, xt_min (by omega) (by omega), xfil_up _ _ _ _ _ rfl]
  · skip
    refine xw_go xb_62 3 rfl trivial ?_
    refine xw_if (fun c_13 => ?_) (fun c_13 => ?_)
    · skip
      refine xw_ret xb_62 rfl rfl trivial ?_
      exact ⟨rfl, rfl⟩
    · skip
      exfalso
      simp (disch := omega) only [nI_leI] at c_13
      omega

theorem c_dryBy {d : Nat} {b : Bool} {I : Nat → Nat → Int32} {L : Nat → Nat → Int64} {R C : Nat} (hR : I 1 0 = nI R) (hC : I 1 1 = nI C) (bR : R ≤ 8) (bC : C ≤ 8) {wt : Nat → Nat} (hwt : ∀ c, c < R * C → I 3 c = nI (wt c)) {m : Nat} (bm : m < 1000) (bw : ∀ c, c < R * C → wt c < 100000) {x1 : Int32} (e_x1 : x1 = nI m) : xm_Z (d + 2) 64 [.ref 1, .int x1] (xS b, I, L, xP b) (fun rz hz => rz = none ∧ hz = (xS b, va_up I 3 (xfil (R * C) (fun c => nI (wt c - m)) (I 3)), L, xP b)) := by
  subst e_x1
  have h64 := xmul64 bR bC
  refine xw_S xb_64 (Nat.le_of_ble_eq_true rfl) rfl ?_
  refine xw_go xb_64 3 rfl trivial ?_
  refine xw_call xb_64 rfl rfl rfl rfl rfl (Or.inr ⟨_, _, rfl, rfl⟩) (c_cells hR hC) ?_
  rintro _ _ ⟨rfl, rfl⟩
  refine xw_go xb_64 1 rfl trivial ?_
  refine xw_cong rfl rfl (show (xS b, I, L, xP b) = (xS b, va_up I 3 (xfil 0 (fun c => nI (wt c - m)) (I 3)), L, xP b) by rw [xfil_0, xm_up_id]) ?_
  refine xw_loop (R * C) (fun c => (7, [.ref 1, .int (nI m), .int (nI c), .int (nI (R * C))], [])) (fun c => (xS b, va_up I 3 (xfil c (fun c => nI (wt c - m)) (I 3)), L, xP b)) (fun c hc ih => ?_) ?_ 0 (Nat.zero_le _)
  · skip
    refine xw_go xb_64 3 rfl trivial ?_
    refine xw_if (fun c_9 => ?_) (fun c_9 => ?_)
    · skip
      exfalso
      simp (disch := omega) only [nI_leI] at c_9
      omega
    · skip
      refine xw_go xb_64 14 rfl ⟨rfl, rfl, (xn_ar (N := 64) rfl (by omega) (by decide)), Nat.le_of_ble_eq_true rfl, (xn_ar (N := 64) rfl (by omega) (by decide)), trivial⟩ ?_
      refine xw_cong ?_ rfl ?_ ih
      · show [Value.ref 1, .int (nI m), .int (nI c + 1), .int (nI (R * C))] = _
        rw [nI_1]
      · have q1 := bw c hc
        have e1 : va_up I 3 (xfil c (fun c => nI (wt c - m)) (I 3)) 3 c = nI (wt c) := by
          simp only [va_up, if_true, xfil, Nat.lt_irrefl, if_false]
          exact hwt c hc
        show (xS b, xm_up (va_up I 3 (xfil c (fun c => nI (wt c - m)) (I 3))) 3 (nI c).toNatClampNeg (if 0 < va_up I 3 (xfil c (fun c => nI (wt c - m)) (I 3)) 3 (nI c).toNatClampNeg - nI m then va_up I 3 (xfil c (fun c => nI (wt c - m)) (I 3)) 3 (nI c).toNatClampNeg - nI m else 0), L, xP b) = _
        rw [xn_cl (by omega), e1]
        have e2 : (if 0 < nI (wt c) - nI m then nI (wt c) - nI m else 0) = nI (wt c - m) := by
          by_cases hq : m ≤ wt c
          · rw [xn_sub hq, xl_0, xt_max (by omega) (by omega), Nat.zero_max]
          · rw [if_neg (fun z => by rw [xt_lt, xt_sub (by omega) (by omega), Int32.toInt_zero] at z; omega), show wt c - m = 0 by omega]
            rfl
        rw [e2, xfil_up _ _ _ _ _ rfl]
  · skip
    refine xw_go xb_64 3 rfl trivial ?_
    refine xw_if (fun c_9 => ?_) (fun c_9 => ?_)
    · skip
      refine xw_ret xb_64 rfl rfl trivial ?_
      exact ⟨rfl, rfl⟩
    · skip
      exfalso
      simp (disch := omega) only [nI_leI] at c_9
      omega

theorem c_fill {d : Nat} {S : List (Nat × Nat)} {I : Nat → Nat → Int32} {L : Nat → Nat → Int64} {P : Nat → Nat → Option Nat} {a n : Nat} {v : Int32} (ha : S[a]? = some (0, n)) (bn : n < 2 ^ 31) : xm_Z (d + 1) 12 [.ref a, .int v] (S, I, L, P) (fun rz hz => rz = none ∧ hz = (S, va_up I a (xfil n (fun _ => v) (I a)), L, P)) := by
  refine xw_S xb_12 (Nat.le_of_ble_eq_true rfl) rfl ?_
  refine xw_go xb_12 5 rfl ⟨⟨0, by decide, by show S[a]? = some (0, (S.getD a (0, 0)).2); rw [List.getD_eq_getElem?_getD, ha]; rfl⟩, trivial⟩ ?_
  refine xw_cong (l' := [.ref a, .int v, .int (nI 0), .int (nI n)]) (by show [Value.ref a, .int v, .int 0, .int (Int32.ofNat (S.getD a (0, 0)).2)] = _; rw [List.getD_eq_getElem?_getD, ha]; rfl) rfl (show (S, I, L, P) = (S, va_up I a (xfil 0 (fun _ => v) (I a)), L, P) by rw [xfil_0, xm_up_id]) ?_
  refine xw_loop n (fun c => (5, [.ref a, .int v, .int (nI c), .int (nI n)], [])) (fun c => (S, va_up I a (xfil c (fun _ => v) (I a)), L, P)) (fun c hc ih => ?_) ?_ 0 (Nat.zero_le _)
  · skip
    refine xw_go xb_12 3 rfl trivial ?_
    refine xw_if (fun c_7 => ?_) (fun c_7 => ?_)
    · skip
      exfalso
      simp (disch := omega) only [nI_leI] at c_7
      omega
    · skip
      refine xw_go xb_12 6 rfl ⟨(xn_ar ha (by omega) bn), trivial⟩ ?_
      refine xw_cong ?_ rfl ?_ ih
      · show [Value.ref a, .int v, .int (nI c + 1), .int (nI n)] = _
        rw [nI_1]
      · show (S, xm_up (va_up I a (xfil c (fun _ => v) (I a))) a (nI c).toNatClampNeg v, L, P) = _
        rw [xn_cl (by omega), xfil_up _ _ _ _ _ rfl]
  · skip
    refine xw_go xb_12 3 rfl trivial ?_
    refine xw_if (fun c_7 => ?_) (fun c_7 => ?_)
    · skip
      refine xw_ret xb_12 rfl rfl trivial ?_
      exact ⟨rfl, rfl⟩
    · skip
      exfalso
      simp (disch := omega) only [nI_leI] at c_7
      omega
