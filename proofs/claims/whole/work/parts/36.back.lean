/-! ===== the class: undone, a minute, a new lawn, a new sprinkler ===== -/
set_option maxHeartbeats 4000000 in
theorem c_takeBack {d : Nat} {b : Bool} {I : Nat → Nat → Int32} {L : Nat → Nat → Int64} {u nx : Nat} (hu : I 5 1 = nI u) (hx : I 5 2 = nI nx) (bu : u ≤ 8) (bx : nx < 8) (b0 : 0 < u) : xm_Z (d + 2) 69 [.ref 1] (xS b, I, L, xP b) (fun rz hz => rz = none ∧ ∃ I', hz = (xS b, I', L, xP b) ∧ xfr [1, 3, 5, 15, 16, 17, 18, 19] I I' ∧ (∀ k, k ≠ 11 → k ≠ 12 → k ≠ 13 → I' 1 k = I 1 k) ∧ I' 1 12 = I (7 + (nx + 7) % 8) 69 ∧ I' 1 11 = I (7 + (nx + 7) % 8) 70 ∧ I' 1 13 = I (7 + (nx + 7) % 8) 71 ∧ (∀ k, k < 64 → I' 3 k = I (7 + (nx + 7) % 8) k) ∧ (∀ i, i < 5 → I' (15 + i) 1 = I (7 + (nx + 7) % 8) (64 + i) ∧ ∀ k, k ≠ 1 → I' (15 + i) k = I (15 + i) k) ∧ I' 5 1 = nI (u - 1) ∧ I' 5 2 = nI ((nx + 7) % 8)) := by
  refine xw_S xb_69 (l := [.ref 1, .float 0, .float 0]) (Nat.le_of_ble_eq_true rfl) rfl ?_
  refine xw_go xb_69 2 (f1 := (4, [.ref 1, .float 0, .float 0], [.ref 5])) (h1 := (xS b, I, L, xP b)) rfl ⟨rfl, trivial⟩ ?_
  refine xw_call xb_69 rfl rfl rfl rfl rfl (Or.inr ⟨_, _, rfl, rfl⟩) (c_rowOfLatest hu hx bu bx b0) ?_
  rintro _ _ ⟨rfl, I1, rfl, hf1, hu1, hx1⟩
  refine xw_at (f' := (7, [.ref 1, .float 0, .float 0], [.ref (7 + (nx + 7) % 8)])) (h' := (xS b, I1, L, xP b)) rfl rfl ?_
  obtain ⟨rr, hrr⟩ : ∃ rr, rr = 7 + (nx + 7) % 8 := ⟨_, rfl⟩
  have br : 7 ≤ rr ∧ rr < 15 := by omega
  have hsr : (xS b)[rr]? = some (0, 72) := by rw [hrr]; exact xS_7 (by omega)
  refine xw_cong (l' := [.ref 1, .float 0, .float 0]) (st' := [.ref rr]) (h' := (xS b, I1, L, xP b)) rfl (show ([.ref (7 + (nx + 7) % 8)] : List Value) = [.ref rr] from ?_) rfl ?_
  · rw [hrr]
  refine xw_go xb_69 7 (f1 := (17, [.ref 1, .ref rr, .float 0], [.int 64, .int 0, .ref 3, .int 0, .ref rr])) (h1 := (xS b, I1, L, xP b)) rfl ⟨rfl, trivial⟩ ?_
  refine xw_cpI xb_69 rfl rfl rfl ⟨72, 64, hsr, rfl, by decide, by decide, by decide, by decide, by decide⟩ ?_
  refine xw_at (f' := (20, [.ref 1, .ref rr, .float 0], [])) (h' := (xS b, va_up I1 3 (va_cpy (I1 rr) (I1 3) (0 : Int32).toNatClampNeg (0 : Int32).toNatClampNeg (64 : Int32).toNatClampNeg), L, xP b)) rfl rfl ?_
  refine xw_go xb_69 2 (f1 := (22, [.ref 1, .ref rr, .int 0], [])) (h1 := (xS b, va_up I1 3 (va_cpy (I1 rr) (I1 3) (0 : Int32).toNatClampNeg (0 : Int32).toNatClampNeg (64 : Int32).toNatClampNeg), L, xP b)) rfl trivial ?_
  refine xw_at (f' := (22, [.ref 1, .ref rr, .int (nI 0)], [])) (h' := (xS b, (fun a k => if 15 ≤ a ∧ a < 15 + 0 ∧ k = 1 then I1 rr (64 + (a - 15)) else va_up I1 3 (xfil 64 (I1 rr) (I1 3)) a k), L, xP b)) rfl ?_ ?_
  · refine congrArg (fun X => (xS b, X, L, xP b)) ?_
    funext a k
    rw [if_neg (by omega)]
    refine congrFun (congrFun (congrArg (fun X => va_up I1 3 X) ?_) a) k
    funext k
    show (if 0 ≤ k ∧ k < 0 + 64 then I1 rr (0 + (k - 0)) else I1 3 k) = _
    simp only [xfil]
    by_cases h : k < 64
    · rw [if_pos (by omega), if_pos h, Nat.zero_add, Nat.sub_zero]
    · rw [if_neg (by omega), if_neg h]
  refine xw_loop 5 (fun i => (22, [.ref 1, .ref rr, .int (nI i)], [])) (fun i => (xS b, (fun a k => if 15 ≤ a ∧ a < 15 + i ∧ k = 1 then I1 rr (64 + (a - 15)) else va_up I1 3 (xfil 64 (I1 rr) (I1 3)) a k), L, xP b)) (fun i hi ih => ?_) ?_ 0 (Nat.zero_le _)
  · skip
    refine xw_go xb_69 3 (f1 := (if 5 ≤ (nI i) then 48 else 27, [.ref 1, .ref rr, .int (nI i)], [])) (h1 := (xS b, (fun a k => if 15 ≤ a ∧ a < 15 + i ∧ k = 1 then I1 rr (64 + (a - 15)) else va_up I1 3 (xfil 64 (I1 rr) (I1 3)) a k), L, xP b)) rfl trivial ?_
    refine xw_if (fun c_24 => ?_) (fun c_24 => ?_)
    · skip
      exfalso
      simp (disch := omega) only [xl_5, nI_leI, nI_ltI] at c_24
      omega
    · skip
      refine xw_go xb_69 4 (f1 := (33, [.ref 1, .ref rr, .int (nI i)], [xm_o (xP b 4 (nI i).toNatClampNeg)])) (h1 := (xS b, (fun a k => if 15 ≤ a ∧ a < 15 + i ∧ k = 1 then I1 rr (64 + (a - 15)) else va_up I1 3 (xfil 64 (I1 rr) (I1 3)) a k), L, xP b)) rfl ⟨rfl, (xn_ar (n := i) (N := 5) rfl (by omega) (by decide)), ⟨Nat.le_of_ble_eq_true rfl, Nat.le_of_ble_eq_true rfl⟩, trivial⟩ ?_
      refine xw_cong (l' := [.ref 1, .ref rr, .int (nI i)]) (st' := [.ref (15 + i)]) (h' := (xS b, (fun a k => if 15 ≤ a ∧ a < 15 + i ∧ k = 1 then I1 rr (64 + (a - 15)) else va_up I1 3 (xfil 64 (I1 rr) (I1 3)) a k), L, xP b)) rfl (show ([xm_o (xP b 4 (nI i).toNatClampNeg)] : List Value) = [.ref (15 + i)] from ?_) rfl ?_
      · rw [xn_cl (by omega), xP_4 hi]
        rfl
      refine xw_go xb_69 8 (f1 := (22, [.ref 1, .ref rr, .int ((nI i) + 1)], [])) (h1 := (xS b, xm_up (fun a k => if 15 ≤ a ∧ a < 15 + i ∧ k = 1 then I1 rr (64 + (a - 15)) else va_up I1 3 (xfil 64 (I1 rr) (I1 3)) a k) (15 + i) 1 ((fun a k => if 15 ≤ a ∧ a < 15 + i ∧ k = 1 then I1 rr (64 + (a - 15)) else va_up I1 3 (xfil 64 (I1 rr) (I1 3)) a k) rr (64 + (nI i)).toNatClampNeg), L, xP b)) rfl ⟨(by show xm_ar _ rr 0 (64 + nI i); rw [xl_64, nI_add]; exact xn_ar (N := 72) hsr (by omega) (by decide)), (xS_15 hi), trivial⟩ ?_
      refine xw_cong ?_ rfl ?_ ih
      · rw [nI_1]
      · rw [xl_64, nI_add, xn_cl (by omega)]
        refine congrArg (fun X => (xS b, X, L, xP b)) ?_
        have gi : ∀ k, (fun a k => if 15 ≤ a ∧ a < 15 + i ∧ k = 1 then I1 rr (64 + (a - 15)) else va_up I1 3 (xfil 64 (I1 rr) (I1 3)) a k) rr k = I1 rr k := fun k => by
          show (if 15 ≤ rr ∧ rr < 15 + i ∧ k = 1 then _ else _) = _
          rw [if_neg (by omega), xm_vu_o (show rr ≠ 3 by omega)]
        rw [gi]
        funext a k
        by_cases ha : a = 15 + i
        · subst ha
          by_cases hk : k = 1
          · subst hk
            simp only [xm_up, va_up, if_true]
            have h2 : 15 ≤ 15 + i ∧ 15 + i < 15 + (i + 1) ∧ True := ⟨by omega, by omega, trivial⟩
            rw [if_pos h2, show 15 + i - 15 = i by omega]
          · simp only [xm_up, va_up, if_true, hk, if_false, and_false]
        · simp only [xm_up, va_up, ha, if_false]
          by_cases h1 : 15 ≤ a ∧ a < 15 + i ∧ k = 1
          · have h2 : 15 ≤ a ∧ a < 15 + (i + 1) ∧ k = 1 := by omega
            rw [if_pos h1, if_pos h2]
          · have h2 : ¬ (15 ≤ a ∧ a < 15 + (i + 1) ∧ k = 1) := by omega
            rw [if_neg h1, if_neg h2]
  · skip
    refine xw_go xb_69 3 (f1 := (if 5 ≤ (nI 5) then 48 else 27, [.ref 1, .ref rr, .int (nI 5)], [])) (h1 := (xS b, (fun a k => if 15 ≤ a ∧ a < 15 + 5 ∧ k = 1 then I1 rr (64 + (a - 15)) else va_up I1 3 (xfil 64 (I1 rr) (I1 3)) a k), L, xP b)) rfl trivial ?_
    refine xw_if (fun c_24 => ?_) (fun c_24 => ?_)
    · skip
      refine xw_go xb_69 15 (f1 := (72, [.ref 1, .ref rr, .int (nI 5)], [])) (h1 := (xS b, xm_up (xm_up (xm_up (fun a k => if 15 ≤ a ∧ a < 15 + 5 ∧ k = 1 then I1 rr (64 + (a - 15)) else va_up I1 3 (xfil 64 (I1 rr) (I1 3)) a k) 1 12 ((fun a k => if 15 ≤ a ∧ a < 15 + 5 ∧ k = 1 then I1 rr (64 + (a - 15)) else va_up I1 3 (xfil 64 (I1 rr) (I1 3)) a k) rr (69 : Int32).toNatClampNeg)) 1 11 ((xm_up (fun a k => if 15 ≤ a ∧ a < 15 + 5 ∧ k = 1 then I1 rr (64 + (a - 15)) else va_up I1 3 (xfil 64 (I1 rr) (I1 3)) a k) 1 12 ((fun a k => if 15 ≤ a ∧ a < 15 + 5 ∧ k = 1 then I1 rr (64 + (a - 15)) else va_up I1 3 (xfil 64 (I1 rr) (I1 3)) a k) rr (69 : Int32).toNatClampNeg)) rr (70 : Int32).toNatClampNeg)) 1 13 ((xm_up (xm_up (fun a k => if 15 ≤ a ∧ a < 15 + 5 ∧ k = 1 then I1 rr (64 + (a - 15)) else va_up I1 3 (xfil 64 (I1 rr) (I1 3)) a k) 1 12 ((fun a k => if 15 ≤ a ∧ a < 15 + 5 ∧ k = 1 then I1 rr (64 + (a - 15)) else va_up I1 3 (xfil 64 (I1 rr) (I1 3)) a k) rr (69 : Int32).toNatClampNeg)) 1 11 ((xm_up (fun a k => if 15 ≤ a ∧ a < 15 + 5 ∧ k = 1 then I1 rr (64 + (a - 15)) else va_up I1 3 (xfil 64 (I1 rr) (I1 3)) a k) 1 12 ((fun a k => if 15 ≤ a ∧ a < 15 + 5 ∧ k = 1 then I1 rr (64 + (a - 15)) else va_up I1 3 (xfil 64 (I1 rr) (I1 3)) a k) rr (69 : Int32).toNatClampNeg)) rr (70 : Int32).toNatClampNeg)) rr (71 : Int32).toNatClampNeg), L, xP b)) rfl ⟨(xn_ar (n := 69) (N := 72) hsr (by decide) (by decide)), rfl, (xn_ar (n := 70) (N := 72) hsr (by decide) (by decide)), rfl, (xn_ar (n := 71) (N := 72) hsr (by decide) (by decide)), rfl, trivial⟩ ?_
      refine xw_ret xb_69 rfl rfl trivial ?_
      have e1 : ∀ a, a ≠ 5 → I1 a = I a := fun a ha => hf1 a (by simpa using ha)
      obtain ⟨G, hG⟩ : ∃ G, G = (fun a k => if 15 ≤ a ∧ a < 15 + 5 ∧ k = 1 then I1 rr (64 + (a - 15)) else va_up I1 3 (xfil 64 (I1 rr) (I1 3)) a k) := ⟨_, rfl⟩
      rw [← hG]
      have gq : ∀ a k, G a k = if 15 ≤ a ∧ a < 15 + 5 ∧ k = 1 then I1 rr (64 + (a - 15)) else va_up I1 3 (xfil 64 (I1 rr) (I1 3)) a k := fun a k => by rw [hG]
      clear hG
      have gr : ∀ k, G rr k = I rr k := fun k => by
        rw [gq, if_neg (by omega), xm_vu_o (show rr ≠ 3 by omega), e1 rr (by omega)]
      rw [show (69 : Int32).toNatClampNeg = 69 from rfl, show (70 : Int32).toNatClampNeg = 70 from rfl, show (71 : Int32).toNatClampNeg = 71 from rfl]
      have r1 : rr ≠ 1 := by omega
      simp only [xm_up_o r1, gr]
      subst hrr
      refine ⟨trivial, _, rfl, fun a ha => ?_, fun k h1 h2 h3 => ?_, rfl, rfl, rfl, fun k hk => ?_, fun i hi => ⟨?_, fun k hk => ?_⟩, ?_, ?_⟩
      · simp only [List.mem_cons, List.not_mem_nil, or_false, not_or] at ha
        rw [xm_up_o ha.1, xm_up_o ha.1, xm_up_o ha.1]
        funext k
        rw [gq, if_neg (by omega), xm_vu_o ha.2.1, e1 a ha.2.2.1]
      · simp only [xm_up, va_up, if_true, h1, h2, h3, if_false]
        rw [gq, if_neg (by omega), xm_vu_o (by decide), e1 1 (by decide)]
      · rw [xm_up_o (by decide), xm_up_o (by decide), xm_up_o (by decide), gq, if_neg (by omega)]
        show xfil 64 (I1 _) (I1 3) k = _
        simp only [xfil]
        rw [if_pos hk, e1 _ (by omega)]
      · rw [xm_up_o (by omega), xm_up_o (by omega), xm_up_o (by omega), gq]
        rw [if_pos (by omega), show 15 + i - 15 = i by omega, e1 _ (by omega)]
      · rw [xm_up_o (by omega), xm_up_o (by omega), xm_up_o (by omega), gq]
        rw [if_neg (by omega), xm_vu_o (by omega), e1 _ (by omega)]
      · rw [xm_up_o (by decide), xm_up_o (by decide), xm_up_o (by decide), gq, if_neg (by omega), xm_vu_o (by decide)]
        exact hu1
      · rw [xm_up_o (by decide), xm_up_o (by decide), xm_up_o (by decide), gq, if_neg (by omega), xm_vu_o (by decide)]
        exact hx1
    · skip
      exfalso
      simp (disch := omega) only [xl_5, nI_leI, nI_ltI] at c_24
      omega

theorem xPN_w {N N' : Nat → Nat} {p : Nat} {I I' : Nat → Nat → Int32} (hN : xPN N p I) (h0 : ∀ k, k ≠ 4 → k ≠ 9 → k < 95 → N' k = N k) (hs : ∀ a, a ≠ p → a ≠ p + 2 → I' a = I a) (hp : ∀ k, k ≠ 11 → k ≠ 12 → I' p k = I p k) (h4 : I' p 11 = nI (N' 4)) (h9 : I' p 12 = nI (N' 9)) (hw : ∀ c, c < 64 → I' (p + 2) c = nI (N' (95 + c))) (hN2 : N 2 ≤ 5) : xPN N' p I' := by
  obtain ⟨⟨a0, a1, a2, a3, a4, a5, a6, a7, a8, a9, a10⟩, b1, b2, b3⟩ := hN
  have e2 : N' 2 = N 2 := h0 2 (by decide) (by decide) (by decide)
  refine ⟨⟨?_, ?_, ?_, ?_, h4, ?_, ?_, ?_, ?_, h9, ?_⟩, fun c hc => ?_, hw, fun i hi f hf => ?_⟩
  · rw [hp 0 (by decide) (by decide), h0 0 (by decide) (by decide) (by decide)]; exact a0
  · rw [hp 1 (by decide) (by decide), h0 1 (by decide) (by decide) (by decide)]; exact a1
  · rw [hp 5 (by decide) (by decide), h0 2 (by decide) (by decide) (by decide)]; exact a2
  · rw [hp 6 (by decide) (by decide), h0 3 (by decide) (by decide) (by decide)]; exact a3
  · rw [hp 7 (by decide) (by decide), h0 5 (by decide) (by decide) (by decide)]; exact a5
  · rw [hp 8 (by decide) (by decide), h0 6 (by decide) (by decide) (by decide)]; exact a6
  · rw [hp 9 (by decide) (by decide), h0 7 (by decide) (by decide) (by decide)]; exact a7
  · rw [hp 10 (by decide) (by decide), h0 8 (by decide) (by decide) (by decide)]; exact a8
  · rw [hp 13 (by decide) (by decide), h0 10 (by decide) (by decide) (by decide)]; exact a10
  · rw [hs _ (by omega) (by omega), h0 _ (by omega) (by omega) (by omega)]; exact b1 c hc
  · rw [e2] at hi
    rw [hs _ (by omega) (by omega), h0 _ (by omega) (by omega) (by omega)]; exact b3 i hi f hf
set_option maxHeartbeats 4000000 in
theorem c_passMinute {d : Nat} {b : Bool} {I : Nat → Nat → Int32} {L : Nat → Nat → Int64} {N : Nat → Nat} (hN : xPN N 1 I) (hO : xOK N) {fv : Nat → Nat} (ht : ∀ c, c < N 0 * N 1 → I 22 c = nI (xtk fv (xso N) (N 1) c)) (bt : ∀ c, c < N 0 * N 1 → xtk fv (xso N) (N 1) c < 10000) (hl : I 20 3 = nI (xlost fv (xso N) (N 0) (N 1))) (bl : xlost fv (xso N) (N 0) (N 1) < 100000) : xm_Z (d + 3) 61 [.ref 1, .ref 20] (xS b, I, L, xP b) (fun rz hz => rz = none ∧ ∃ I', hz = (xS b, I', L, xP b) ∧ xfr [1, 3] I I' ∧ xPN (xgo N fv) 1 I') := by
  have hb := hO.1
  have c64 : N 0 * N 1 ≤ 64 := xce_le hO
  refine xw_S xb_61 (l := [.ref 1, .ref 20]) (Nat.le_of_ble_eq_true rfl) rfl ?_
  refine xw_go xb_61 8 (f1 := (14, [.ref 1, .ref 20], [.ref 3, .int 1, .ref 22, .ref 3, .ref 1])) (h1 := (xS b, I, L, xP b)) rfl ⟨rfl, rfl, rfl, trivial⟩ ?_
  refine xw_call xb_61 rfl rfl rfl rfl rfl (Or.inr ⟨_, _, rfl, rfl⟩) (c_soak (R := N 0) (C := N 1) hN.1.1 hN.1.2.1 (by omega) (by omega) (fr := 3) (ta := 22) (to := 3) (m := 1) rfl rfl rfl (by decide) (wv := fun c => N (95 + c)) (tv := xtk fv (xso N) (N 1)) (fun c hc => hN.2.2.1 c (by omega)) ht (fun c hc => by have := hO.2.2.1 c (by omega); show N (95 + c) < _; omega) bt (by decide) rfl) ?_
  rintro _ _ ⟨rfl, rfl⟩
  refine xw_at (f' := (17, [.ref 1, .ref 20], [])) (h' := (xS b, va_up I 3 (xfil (N 0 * N 1) (fun c => nI (min 9999 (N (95 + c) + 1 * xtk fv (xso N) (N 1) c))) (I 3)), L, xP b)) rfl rfl ?_
  refine xw_go xb_61 15 (f1 := (45, [.ref 1, .ref 20], [])) (h1 := (xS b, xm_up (xm_up (va_up I 3 (xfil (N 0 * N 1) (fun c => nI (min 9999 (N (95 + c) + 1 * xtk fv (xso N) (N 1) c))) (I 3))) 1 12 (if (((va_up I 3 (xfil (N 0 * N 1) (fun c => nI (min 9999 (N (95 + c) + 1 * xtk fv (xso N) (N 1) c))) (I 3))) 1 12) + ((va_up I 3 (xfil (N 0 * N 1) (fun c => nI (min 9999 (N (95 + c) + 1 * xtk fv (xso N) (N 1) c))) (I 3))) 20 3)) < 999999 then (((va_up I 3 (xfil (N 0 * N 1) (fun c => nI (min 9999 (N (95 + c) + 1 * xtk fv (xso N) (N 1) c))) (I 3))) 1 12) + ((va_up I 3 (xfil (N 0 * N 1) (fun c => nI (min 9999 (N (95 + c) + 1 * xtk fv (xso N) (N 1) c))) (I 3))) 20 3)) else 999999)) 1 11 (((xm_up (va_up I 3 (xfil (N 0 * N 1) (fun c => nI (min 9999 (N (95 + c) + 1 * xtk fv (xso N) (N 1) c))) (I 3))) 1 12 (if (((va_up I 3 (xfil (N 0 * N 1) (fun c => nI (min 9999 (N (95 + c) + 1 * xtk fv (xso N) (N 1) c))) (I 3))) 1 12) + ((va_up I 3 (xfil (N 0 * N 1) (fun c => nI (min 9999 (N (95 + c) + 1 * xtk fv (xso N) (N 1) c))) (I 3))) 20 3)) < 999999 then (((va_up I 3 (xfil (N 0 * N 1) (fun c => nI (min 9999 (N (95 + c) + 1 * xtk fv (xso N) (N 1) c))) (I 3))) 1 12) + ((va_up I 3 (xfil (N 0 * N 1) (fun c => nI (min 9999 (N (95 + c) + 1 * xtk fv (xso N) (N 1) c))) (I 3))) 20 3)) else 999999)) 1 11) + 1), L, xP b)) rfl ⟨rfl, rfl, Nat.le_of_ble_eq_true rfl, rfl, rfl, rfl, trivial⟩ ?_
  refine xw_ret xb_61 rfl rfl trivial ?_
  refine ⟨rfl, _, rfl, fun a ha => ?_, ?_⟩
  · simp only [List.mem_cons, List.not_mem_nil, or_false, not_or] at ha
    rw [xm_up_o ha.1, xm_up_o ha.1, xm_vu_o ha.2]
  · refine xPN_w hN ?_ ?_ ?_ ?_ ?_ ?_ (by omega)
    · intro k h4 h9 hk
      unfold xgo
      rw [if_neg (by omega), if_neg h9, if_neg h4]
    · intro a h1 h3
      rw [xm_up_o h1, xm_up_o h1, xm_vu_o h3]
    · intro k h1 h2
      simp [xm_up, va_up, h1, h2]
    · show I 1 11 + 1 = _
      rw [hN.1.2.2.2.2.1, nI_1]
      unfold xgo
      rw [if_neg (by omega), if_neg (by decide), if_pos rfl]
    · show (if I 1 12 + I 20 3 < 999999 then I 1 12 + I 20 3 else 999999) = _
      rw [hN.1.2.2.2.2.2.2.2.2.2.1, hl, nI_add, xl_999999, xt_min (by omega) (by omega)]
      unfold xgo
      rw [if_neg (by omega), if_pos rfl]
    · intro c hc
      rw [xm_up_o (by decide), xm_up_o (by decide), show (1 + 2 : Nat) = 3 from rfl]
      simp only [va_up, if_true, xfil]
      unfold xgo xce
      by_cases h1 : c < N 0 * N 1
      · rw [if_pos h1, if_pos (by omega), show 95 + c - 95 = c by omega, Nat.one_mul]
      · rw [if_neg h1, if_neg (by omega), if_neg (by omega), if_neg (by omega)]
        exact hN.2.2.1 c hc

