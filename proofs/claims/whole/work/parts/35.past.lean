/-! ===== the class: what may be undone ===== -/
theorem xP_6 {b : Bool} {p : Nat} (h : p < 8) : xP b 6 p = some (7 + p) := by
  match p, h with
  | 0, _ => rfl
  | 1, _ => rfl
  | 2, _ => rfl
  | 3, _ => rfl
  | 4, _ => rfl
  | 5, _ => rfl
  | 6, _ => rfl
  | 7, _ => rfl
theorem xS_7 {b : Bool} {p : Nat} (h : p < 8) : (xS b)[7 + p]? = some (0, 72) := by
  match p, h with
  | 0, _ => rfl
  | 1, _ => rfl
  | 2, _ => rfl
  | 3, _ => rfl
  | 4, _ => rfl
  | 5, _ => rfl
  | 6, _ => rfl
  | 7, _ => rfl
theorem c_rowForNewest {d : Nat} {b : Bool} {I : Nat → Nat → Int32} {L : Nat → Nat → Int64} {u nx : Nat} (hu : I 5 1 = nI u) (hx : I 5 2 = nI nx) (bu : u ≤ 8) (bx : nx < 8) : xm_Z (d + 1) 60 [.ref 5] (xS b, I, L, xP b) (fun rz hz => rz = some (.ref (7 + nx)) ∧ ∃ I', hz = (xS b, I', L, xP b) ∧ xfr [5] I I' ∧ I' 5 1 = nI (min 8 (u + 1)) ∧ I' 5 2 = nI ((nx + 1) % 8)) := by
  refine xw_S xb_60 (l := [.ref 5, .float 0]) (Nat.le_of_ble_eq_true rfl) rfl ?_
  refine xw_go xb_60 5 (f1 := (9, [.ref 5, .float 0], [xm_o (xP b 6 (I 5 2).toNatClampNeg)])) (h1 := (xS b, I, L, xP b)) rfl ⟨rfl, rfl, (xn_ar' (n := nx) (N := 8) rfl hx bx (by decide)), ⟨Nat.le_of_ble_eq_true rfl, Nat.le_of_ble_eq_true rfl⟩, trivial⟩ ?_
  refine xw_cong (l' := [.ref 5, .float 0]) (st' := [.ref (7 + nx)]) (h' := (xS b, I, L, xP b)) rfl (show ([xm_o (xP b 6 (I 5 2).toNatClampNeg)] : List Value) = [.ref (7 + nx)] from ?_) rfl ?_
  · rw [hx, xn_cl (by omega), xP_6 bx]
    rfl
  refine xw_go xb_60 18 (f1 := (39, [.ref 5, .ref (7 + nx)], [.ref (7 + nx)])) (h1 := (xS b, xm_up (xm_up I 5 2 (((I 5 2) + 1) - ((I 5 2) + 1) / 8 * 8)) 5 1 (if (((xm_up I 5 2 (((I 5 2) + 1) - ((I 5 2) + 1) / 8 * 8)) 5 1) + 1) < 8 then (((xm_up I 5 2 (((I 5 2) + 1) - ((I 5 2) + 1) / 8 * 8)) 5 1) + 1) else 8), L, xP b)) rfl ⟨rfl, (by decide), rfl, rfl, Nat.le_of_ble_eq_true rfl, rfl, trivial⟩ ?_
  refine xw_ret xb_60 rfl rfl trivial ?_
  refine ⟨rfl, _, rfl, fun a ha => ?_, ?_, ?_⟩
  · simp only [List.mem_cons, List.not_mem_nil, or_false] at ha
    rw [xm_up_o ha, xm_up_o ha]
  · show (if xm_up I 5 2 _ 5 1 + 1 < 8 then xm_up I 5 2 _ 5 1 + 1 else 8) = _
    have e : ∀ v, xm_up I 5 2 v 5 1 = nI u := fun v => hu
    rw [e, nI_1, xl_8, xt_min (by omega) (by omega)]
  · show (I 5 2 + 1) - (I 5 2 + 1) / 8 * 8 = _
    rw [hx, nI_1, xl_8, xn_rem (by omega) (by omega) (by omega)]

set_option maxHeartbeats 4000000 in
theorem c_remember {d : Nat} {b : Bool} {I : Nat → Nat → Int32} {L : Nat → Nat → Int64} {u nx : Nat} (hu : I 5 1 = nI u) (hx : I 5 2 = nI nx) (bu : u ≤ 8) (bx : nx < 8) : xm_Z (d + 2) 59 [.ref 1] (xS b, I, L, xP b) (fun rz hz => rz = none ∧ ∃ I', hz = (xS b, I', L, xP b) ∧ xfr [5, 7 + nx] I I' ∧ I' 5 1 = nI (min 8 (u + 1)) ∧ I' 5 2 = nI ((nx + 1) % 8) ∧ (∀ k, k < 64 → I' (7 + nx) k = I 3 k) ∧ (∀ i, i < 5 → I' (7 + nx) (64 + i) = I (15 + i) 1) ∧ I' (7 + nx) 69 = I 1 12 ∧ I' (7 + nx) 70 = I 1 11 ∧ I' (7 + nx) 71 = I 1 13) := by
  refine xw_S xb_59 (l := [.ref 1, .float 0, .float 0]) (Nat.le_of_ble_eq_true rfl) rfl ?_
  refine xw_go xb_59 2 (f1 := (4, [.ref 1, .float 0, .float 0], [.ref 5])) (h1 := (xS b, I, L, xP b)) rfl ⟨rfl, trivial⟩ ?_
  refine xw_call xb_59 rfl rfl rfl rfl rfl (Or.inr ⟨_, _, rfl, rfl⟩) (c_rowForNewest hu hx bu bx) ?_
  rintro _ _ ⟨rfl, I1, rfl, hf1, hu1, hx1⟩
  refine xw_at (f' := (7, [.ref 1, .float 0, .float 0], [.ref (7 + nx)])) (h' := (xS b, I1, L, xP b)) rfl rfl ?_
  refine xw_go xb_59 7 (f1 := (17, [.ref 1, .ref (7 + nx), .float 0], [.int 64, .int 0, .ref (7 + nx), .int 0, .ref 3])) (h1 := (xS b, I1, L, xP b)) rfl ⟨rfl, trivial⟩ ?_
  refine xw_cpI xb_59 rfl rfl rfl ⟨64, 72, rfl, xS_7 bx, by decide, by decide, by decide, by decide, by decide⟩ ?_
  refine xw_at (f' := (20, [.ref 1, .ref (7 + nx), .float 0], [])) (h' := (xS b, va_up I1 (7 + nx) (va_cpy (I1 3) (I1 (7 + nx)) (0 : Int32).toNatClampNeg (0 : Int32).toNatClampNeg (64 : Int32).toNatClampNeg), L, xP b)) rfl rfl ?_
  refine xw_go xb_59 2 (f1 := (22, [.ref 1, .ref (7 + nx), .int 0], [])) (h1 := (xS b, va_up I1 (7 + nx) (va_cpy (I1 3) (I1 (7 + nx)) (0 : Int32).toNatClampNeg (0 : Int32).toNatClampNeg (64 : Int32).toNatClampNeg), L, xP b)) rfl trivial ?_
  refine xw_at (f' := (22, [.ref 1, .ref (7 + nx), .int (nI 0)], [])) (h' := (xS b, va_up I1 (7 + nx) (xfil 64 (I1 3) (xfil (64 + 0) (fun k => I1 (15 + (k - 64)) 1) (I1 (7 + nx)))), L, xP b)) rfl ?_ ?_
  · refine congrArg (fun X => (xS b, va_up I1 (7 + nx) X, L, xP b)) ?_
    funext k
    show (if 0 ≤ k ∧ k < 0 + 64 then I1 3 (0 + (k - 0)) else I1 (7 + nx) k) = _
    simp only [xfil]
    by_cases h : k < 64
    · rw [if_pos (by omega), if_pos h, Nat.zero_add, Nat.sub_zero]
    · rw [if_neg (by omega), if_neg h, if_neg (by omega)]
  refine xw_loop 5 (fun i => (22, [.ref 1, .ref (7 + nx), .int (nI i)], [])) (fun i => (xS b, va_up I1 (7 + nx) (xfil 64 (I1 3) (xfil (64 + i) (fun k => I1 (15 + (k - 64)) 1) (I1 (7 + nx)))), L, xP b)) (fun i hi ih => ?_) ?_ 0 (Nat.zero_le _)
  · skip
    refine xw_go xb_59 3 (f1 := (if 5 ≤ (nI i) then 48 else 27, [.ref 1, .ref (7 + nx), .int (nI i)], [])) (h1 := (xS b, va_up I1 (7 + nx) (xfil 64 (I1 3) (xfil (64 + i) (fun k => I1 (15 + (k - 64)) 1) (I1 (7 + nx)))), L, xP b)) rfl trivial ?_
    refine xw_if (fun c_24 => ?_) (fun c_24 => ?_)
    · skip
      exfalso
      simp (disch := omega) only [xl_5, nI_leI, nI_ltI] at c_24
      omega
    · skip
      refine xw_go xb_59 8 (f1 := (38, [.ref 1, .ref (7 + nx), .int (nI i)], [xm_o (xP b 4 (nI i).toNatClampNeg), .int (64 + (nI i)), .ref (7 + nx)])) (h1 := (xS b, va_up I1 (7 + nx) (xfil 64 (I1 3) (xfil (64 + i) (fun k => I1 (15 + (k - 64)) 1) (I1 (7 + nx)))), L, xP b)) rfl ⟨rfl, (xn_ar (n := i) (N := 5) rfl (by omega) (by decide)), ⟨Nat.le_of_ble_eq_true rfl, Nat.le_of_ble_eq_true rfl⟩, trivial⟩ ?_
      refine xw_cong (l' := [.ref 1, .ref (7 + nx), .int (nI i)]) (st' := [.ref (15 + i), .int (64 + (nI i)), .ref (7 + nx)]) (h' := (xS b, va_up I1 (7 + nx) (xfil 64 (I1 3) (xfil (64 + i) (fun k => I1 (15 + (k - 64)) 1) (I1 (7 + nx)))), L, xP b)) rfl (show ([xm_o (xP b 4 (nI i).toNatClampNeg), .int (64 + (nI i)), .ref (7 + nx)] : List Value) = [.ref (15 + i), .int (64 + (nI i)), .ref (7 + nx)] from ?_) rfl ?_
      · rw [xn_cl (by omega), xP_4 hi]
        rfl
      refine xw_go xb_59 4 (f1 := (22, [.ref 1, .ref (7 + nx), .int ((nI i) + 1)], [])) (h1 := (xS b, xm_up (va_up I1 (7 + nx) (xfil 64 (I1 3) (xfil (64 + i) (fun k => I1 (15 + (k - 64)) 1) (I1 (7 + nx))))) (7 + nx) (64 + (nI i)).toNatClampNeg ((va_up I1 (7 + nx) (xfil 64 (I1 3) (xfil (64 + i) (fun k => I1 (15 + (k - 64)) 1) (I1 (7 + nx))))) (15 + i) 1), L, xP b)) rfl ⟨(xS_15 hi), (by show xm_ar _ (7 + nx) 0 (64 + nI i); rw [xl_64, nI_add]; exact xn_ar (N := 72) (xS_7 bx) (by omega) (by decide)), trivial⟩ ?_
      refine xw_cong ?_ rfl ?_ ih
      · rw [nI_1]
      · rw [xl_64, nI_add, xn_cl (by omega), xup_s, xm_vu_o (show 15 + i ≠ 7 + nx by omega)]
        refine congrArg (fun X => (xS b, va_up I1 (7 + nx) X, L, xP b)) ?_
        funext k
        by_cases hk : k = 64 + i
        · subst hk
          simp only [va_up, if_true, xfil]
          rw [if_neg (by omega), if_pos (by omega), show 64 + i - 64 = i by omega]
        · simp only [va_up, hk, if_false, xfil]
          by_cases h1 : k < 64
          · rw [if_pos h1, if_pos h1]
          · rw [if_neg h1, if_neg h1]
            by_cases h2 : k < 64 + i
            · rw [if_pos h2, if_pos (by omega)]
            · rw [if_neg h2, if_neg (by omega)]
  · skip
    refine xw_go xb_59 3 (f1 := (if 5 ≤ (nI 5) then 48 else 27, [.ref 1, .ref (7 + nx), .int (nI 5)], [])) (h1 := (xS b, va_up I1 (7 + nx) (xfil 64 (I1 3) (xfil (64 + 5) (fun k => I1 (15 + (k - 64)) 1) (I1 (7 + nx)))), L, xP b)) rfl trivial ?_
    refine xw_if (fun c_24 => ?_) (fun c_24 => ?_)
    · skip
      refine xw_go xb_59 15 (f1 := (72, [.ref 1, .ref (7 + nx), .int (nI 5)], [])) (h1 := (xS b, xm_up (xm_up (xm_up (va_up I1 (7 + nx) (xfil 64 (I1 3) (xfil (64 + 5) (fun k => I1 (15 + (k - 64)) 1) (I1 (7 + nx))))) (7 + nx) (69 : Int32).toNatClampNeg ((va_up I1 (7 + nx) (xfil 64 (I1 3) (xfil (64 + 5) (fun k => I1 (15 + (k - 64)) 1) (I1 (7 + nx))))) 1 12)) (7 + nx) (70 : Int32).toNatClampNeg ((xm_up (va_up I1 (7 + nx) (xfil 64 (I1 3) (xfil (64 + 5) (fun k => I1 (15 + (k - 64)) 1) (I1 (7 + nx))))) (7 + nx) (69 : Int32).toNatClampNeg ((va_up I1 (7 + nx) (xfil 64 (I1 3) (xfil (64 + 5) (fun k => I1 (15 + (k - 64)) 1) (I1 (7 + nx))))) 1 12)) 1 11)) (7 + nx) (71 : Int32).toNatClampNeg ((xm_up (xm_up (va_up I1 (7 + nx) (xfil 64 (I1 3) (xfil (64 + 5) (fun k => I1 (15 + (k - 64)) 1) (I1 (7 + nx))))) (7 + nx) (69 : Int32).toNatClampNeg ((va_up I1 (7 + nx) (xfil 64 (I1 3) (xfil (64 + 5) (fun k => I1 (15 + (k - 64)) 1) (I1 (7 + nx))))) 1 12)) (7 + nx) (70 : Int32).toNatClampNeg ((xm_up (va_up I1 (7 + nx) (xfil 64 (I1 3) (xfil (64 + 5) (fun k => I1 (15 + (k - 64)) 1) (I1 (7 + nx))))) (7 + nx) (69 : Int32).toNatClampNeg ((va_up I1 (7 + nx) (xfil 64 (I1 3) (xfil (64 + 5) (fun k => I1 (15 + (k - 64)) 1) (I1 (7 + nx))))) 1 12)) 1 11)) 1 13), L, xP b)) rfl ⟨rfl, (xn_ar (n := 69) (N := 72) (xS_7 bx) (by decide) (by decide)), rfl, (xn_ar (n := 70) (N := 72) (xS_7 bx) (by decide) (by decide)), rfl, (xn_ar (n := 71) (N := 72) (xS_7 bx) (by decide) (by decide)), trivial⟩ ?_
      refine xw_ret xb_59 rfl rfl trivial ?_
      have n1 : (1 : Nat) ≠ 7 + nx := by omega
      have e1 : ∀ a, a ≠ 5 → I1 a = I a := fun a ha => hf1 a (by simpa using ha)
      refine ⟨rfl, _, rfl, fun a ha => ?_, ?_, ?_, fun k hk => ?_, fun i hi => ?_, ?_, ?_, ?_⟩
      · simp only [List.mem_cons, List.not_mem_nil, or_false, not_or] at ha
        rw [xm_up_o ha.2, xm_up_o ha.2, xm_up_o ha.2, xm_vu_o ha.2]
        exact e1 a ha.1
      · rw [xm_up_o (by omega), xm_up_o (by omega), xm_up_o (by omega), xm_vu_o (by omega)]
        exact hu1
      · rw [xm_up_o (by omega), xm_up_o (by omega), xm_up_o (by omega), xm_vu_o (by omega)]
        exact hx1
      all_goals rw [show (69 : Int32).toNatClampNeg = 69 from rfl, show (70 : Int32).toNatClampNeg = 70 from rfl, show (71 : Int32).toNatClampNeg = 71 from rfl, xup_s, xup_s, xup_s, xm_vu_o n1, xm_vu_o n1, xm_vu_o n1, e1 1 (by decide)]
      all_goals simp only [va_up, if_true]
      · rw [if_neg (by omega), if_neg (by omega), if_neg (by omega)]
        simp only [xfil]
        rw [if_pos hk, e1 3 (by decide)]
      · rw [if_neg (by omega), if_neg (by omega), if_neg (by omega)]
        simp only [xfil]
        rw [if_neg (by omega), if_pos (by omega), show 64 + i - 64 = i by omega, e1 _ (by omega)]
      · rw [if_neg (by decide), if_neg (by decide)]
      · rw [if_neg (by decide)]
    · skip
      exfalso
      simp (disch := omega) only [xl_5, nI_leI, nI_ltI] at c_24
      omega

theorem c_rowOfLatest {d : Nat} {b : Bool} {I : Nat → Nat → Int32} {L : Nat → Nat → Int64} {u nx : Nat} (hu : I 5 1 = nI u) (hx : I 5 2 = nI nx) (bu : u ≤ 8) (bx : nx < 8) (b0 : 0 < u) : xm_Z (d + 1) 70 [.ref 5] (xS b, I, L, xP b) (fun rz hz => rz = some (.ref (7 + (nx + 7) % 8)) ∧ ∃ I', hz = (xS b, I', L, xP b) ∧ xfr [5] I I' ∧ I' 5 1 = nI (u - 1) ∧ I' 5 2 = nI ((nx + 7) % 8)) := by
  refine xw_S xb_70 (l := [.ref 5]) (Nat.le_of_ble_eq_true rfl) rfl ?_
  refine xw_go xb_70 18 (f1 := (30, [.ref 5], [])) (h1 := (xS b, xm_up (xm_up I 5 2 ((((I 5 2) + 8) - 1) - (((I 5 2) + 8) - 1) / 8 * 8)) 5 1 (if 0 < (((xm_up I 5 2 ((((I 5 2) + 8) - 1) - (((I 5 2) + 8) - 1) / 8 * 8)) 5 1) - 1) then (((xm_up I 5 2 ((((I 5 2) + 8) - 1) - (((I 5 2) + 8) - 1) / 8 * 8)) 5 1) - 1) else 0), L, xP b)) rfl ⟨rfl, (by decide), rfl, rfl, Nat.le_of_ble_eq_true rfl, rfl, trivial⟩ ?_
  have hx2 : (xm_up (xm_up I 5 2 ((((I 5 2) + 8) - 1) - (((I 5 2) + 8) - 1) / 8 * 8)) 5 1 (if 0 < (((xm_up I 5 2 ((((I 5 2) + 8) - 1) - (((I 5 2) + 8) - 1) / 8 * 8)) 5 1) - 1) then (((xm_up I 5 2 ((((I 5 2) + 8) - 1) - (((I 5 2) + 8) - 1) / 8 * 8)) 5 1) - 1) else 0)) 5 2 = nI ((nx + 7) % 8) := by
    show (I 5 2 + 8 - 1) - (I 5 2 + 8 - 1) / 8 * 8 = _
    rw [hx, xl_8, nI_add, xl_1, xn_sub (by omega), xn_rem (by omega) (by omega) (by omega), show nx + 8 - 1 = nx + 7 by omega]
  refine xw_go xb_70 5 (f1 := (39, [.ref 5], [xm_o (xP b 6 ((xm_up (xm_up I 5 2 ((((I 5 2) + 8) - 1) - (((I 5 2) + 8) - 1) / 8 * 8)) 5 1 (if 0 < (((xm_up I 5 2 ((((I 5 2) + 8) - 1) - (((I 5 2) + 8) - 1) / 8 * 8)) 5 1) - 1) then (((xm_up I 5 2 ((((I 5 2) + 8) - 1) - (((I 5 2) + 8) - 1) / 8 * 8)) 5 1) - 1) else 0)) 5 2).toNatClampNeg)])) (h1 := (xS b, xm_up (xm_up I 5 2 ((((I 5 2) + 8) - 1) - (((I 5 2) + 8) - 1) / 8 * 8)) 5 1 (if 0 < (((xm_up I 5 2 ((((I 5 2) + 8) - 1) - (((I 5 2) + 8) - 1) / 8 * 8)) 5 1) - 1) then (((xm_up I 5 2 ((((I 5 2) + 8) - 1) - (((I 5 2) + 8) - 1) / 8 * 8)) 5 1) - 1) else 0), L, xP b)) rfl ⟨rfl, rfl, (xn_ar' (n := (nx + 7) % 8) (N := 8) rfl hx2 (by omega) (by decide)), ⟨Nat.le_of_ble_eq_true rfl, Nat.le_of_ble_eq_true rfl⟩, trivial⟩ ?_
  refine xw_cong (l' := [.ref 5]) (st' := [.ref (7 + (nx + 7) % 8)]) (h' := (xS b, xm_up (xm_up I 5 2 ((((I 5 2) + 8) - 1) - (((I 5 2) + 8) - 1) / 8 * 8)) 5 1 (if 0 < (((xm_up I 5 2 ((((I 5 2) + 8) - 1) - (((I 5 2) + 8) - 1) / 8 * 8)) 5 1) - 1) then (((xm_up I 5 2 ((((I 5 2) + 8) - 1) - (((I 5 2) + 8) - 1) / 8 * 8)) 5 1) - 1) else 0), L, xP b)) rfl (show ([xm_o (xP b 6 ((xm_up (xm_up I 5 2 ((((I 5 2) + 8) - 1) - (((I 5 2) + 8) - 1) / 8 * 8)) 5 1 (if 0 < (((xm_up I 5 2 ((((I 5 2) + 8) - 1) - (((I 5 2) + 8) - 1) / 8 * 8)) 5 1) - 1) then (((xm_up I 5 2 ((((I 5 2) + 8) - 1) - (((I 5 2) + 8) - 1) / 8 * 8)) 5 1) - 1) else 0)) 5 2).toNatClampNeg)] : List Value) = [.ref (7 + (nx + 7) % 8)] from ?_) rfl ?_
  · rw [hx2, xn_cl (by omega), xP_6 (by omega)]
    rfl
  refine xw_ret xb_70 rfl rfl trivial ?_
  refine ⟨rfl, _, rfl, fun a ha => ?_, ?_, hx2⟩
  · simp only [List.mem_cons, List.not_mem_nil, or_false] at ha
    rw [xm_up_o ha, xm_up_o ha]
  · show (if 0 < xm_up I 5 2 _ 5 1 - 1 then xm_up I 5 2 _ 5 1 - 1 else 0) = _
    have e : ∀ v, xm_up I 5 2 v 5 1 = nI u := fun v => hu
    rw [e, xl_1, xn_sub (by omega), xl_0, xt_max (by omega) (by omega), Nat.zero_max]

