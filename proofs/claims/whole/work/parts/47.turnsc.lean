/-! ===== calls: turns ===== -/
theorem xP_33 {b : Bool} {p : Nat} (h : p < 6) : xP b 33 p = some (34 + p) := by
  match p, h with
  | 0, _ => rfl
  | 1, _ => rfl
  | 2, _ => rfl
  | 3, _ => rfl
  | 4, _ => rfl
  | 5, _ => rfl
theorem xS_34 {b : Bool} {p : Nat} (h : p < 6) : (xS b)[34 + p]? = some (0, 64) := by
  match p, h with
  | 0, _ => rfl
  | 1, _ => rfl
  | 2, _ => rfl
  | 3, _ => rfl
  | 4, _ => rfl
  | 5, _ => rfl
theorem xP_27 {b : Bool} {p : Nat} (h : p < 5) : xP b 27 p = some (28 + p) := by
  match p, h with
  | 0, _ => rfl
  | 1, _ => rfl
  | 2, _ => rfl
  | 3, _ => rfl
  | 4, _ => rfl
theorem xS_28 {b : Bool} {p : Nat} (h : p < 5) : (xS b)[28 + p]? = some (0, 64) := by
  match p, h with
  | 0, _ => rfl
  | 1, _ => rfl
  | 2, _ => rfl
  | 3, _ => rfl
  | 4, _ => rfl
/-- behind the turns q of the first s sprinklers, a turn of m minutes -/
def xpw (N : Nat → Nat) (m : Nat) : Nat → Nat → Nat → Nat
  | 0, _ => N
  | s + 1, q => xgoN (xpw N m s (q / 3)) (xfa N (2 ^ s) (N 5)) (q % 3 * m)
def xtg : Nat → Nat → Nat
  | 0, _ => 0
  | s + 1, q => xtg s (q / 3) + q % 3
/-- the best of the first w ways: wrong, together, which -/
def xtb (N : Nat → Nat) (m n : Nat) : Nat → Nat × Nat × Nat
  | 0 => (65, 0, 0)
  | w + 1 => if xwc (xpw N m n w) < (xtb N m n w).1 ∨ (xwc (xpw N m n w) = (xtb N m n w).1 ∧ xtg n w < (xtb N m n w).2.1) then (xwc (xpw N m n w), xtg n w, w) else xtb N m n w
theorem xtb_y {N : Nat → Nat} {m n w : Nat} (h : xwc (xpw N m n w) < (xtb N m n w).1 ∨ (xwc (xpw N m n w) = (xtb N m n w).1 ∧ xtg n w < (xtb N m n w).2.1)) : xtb N m n (w + 1) = (xwc (xpw N m n w), xtg n w, w) := by
  show (if _ then _ else _) = _
  rw [if_pos h]
theorem xtb_n {N : Nat → Nat} {m n w : Nat} (h : ¬ (xwc (xpw N m n w) < (xtb N m n w).1 ∨ (xwc (xpw N m n w) = (xtb N m n w).1 ∧ xtg n w < (xtb N m n w).2.1))) : xtb N m n (w + 1) = xtb N m n w := by
  show (if _ then _ else _) = _
  rw [if_neg h]
theorem xpw_lo {N : Nat → Nat} {m k : Nat} (h : k < 95) (h9 : k ≠ 9) (h4 : k ≠ 4) : ∀ s q, xpw N m s q k = N k
  | 0, _ => rfl
  | s + 1, q => by
    show xgoN _ _ _ k = _
    rw [xgoN_lo _ _ _ h h9 h4]
    exact xpw_lo h h9 h4 s _
theorem xpw_4 {N : Nat → Nat} {m : Nat} : ∀ s q, xpw N m s q 4 ≤ N 4 + s * (2 * m)
  | 0, _ => by show N 4 ≤ _; omega
  | s + 1, q => by
    show xpw N m s (q / 3) 4 + q % 3 * m ≤ _
    have h1 := xpw_4 (N := N) (m := m) s (q / 3)
    have h2 : q % 3 * m ≤ 2 * m := Nat.mul_le_mul_right m (by omega)
    have h3 : (s + 1) * (2 * m) = s * (2 * m) + 2 * m := Nat.succ_mul _ _
    omega
theorem xpw_m {N : Nat → Nat} {m s q : Nat} (h4 : N 4 ≤ 9999) (hm : m ≤ 20) (hs : s ≤ 5) : xpw N m s q 4 ≤ 10199 := by
  have h1 := xpw_4 (N := N) (m := m) s q
  have h2 : s * (2 * m) ≤ 5 * 40 := Nat.mul_le_mul hs (by omega)
  omega
theorem xpw_ok {N : Nat → Nat} {m : Nat} (hO : xOK N) (h4 : N 4 ≤ 9999) (hm : m ≤ 20) : ∀ s q, s ≤ 5 → xOK (xpw N m s q)
  | 0, _, _ => hO
  | s + 1, q, hs => by
    refine xgoN_ok (xpw_ok hO h4 hm s _ (by omega)) _ ?_
    have h1 := xpw_m (N := N) (m := m) (s := s) (q := q / 3) h4 hm (by omega)
    have h2 : q % 3 * m ≤ 2 * 20 := Nat.mul_le_mul (by omega) hm
    omega
theorem xpw_we {N : Nat → Nat} {m s q t j : Nat} (hO : xOK N) (ht : t < 3) (hj : j < N 0 * N 1) : xpw N m (s + 1) (3 * q + t) (95 + j) = min 9999 (xpw N m s q (95 + j) + t * m * xta N (2 ^ s) (N 5) j) := by
  have hb := hO.1
  have c64 : N 0 * N 1 ≤ 64 := xce_le hO
  show xgoN (xpw N m s ((3 * q + t) / 3)) _ ((3 * q + t) % 3 * m) (95 + j) = _
  rw [show (3 * q + t) / 3 = q by omega, show (3 * q + t) % 3 = t by omega, xgoN_we (by rw [xpw_lo (k := 0) (by decide) (by decide) (by decide), xpw_lo (k := 1) (by decide) (by decide) (by decide)]; exact hj), xpw_lo (k := 1) (by decide) (by decide) (by decide)]
  unfold xta
  rw [xtk_congr (R := N 0) (so := xso (xpw N m s q)) (so' := xso N) (fun i hi => xpw_lo (by omega) (by omega) (by omega) _ _) (by omega) hj]
theorem xpw_w {N : Nat → Nat} {m s q j : Nat} (hO : xOK N) (h4 : N 4 ≤ 9999) (hm : m ≤ 20) (hs : s ≤ 5) (hj : j < 64) : xpw N m s q (95 + j) ≤ 9999 := (xpw_ok hO h4 hm s q hs).2.2.1 j hj
theorem xwc_pw {N : Nat → Nat} {m s q : Nat} (hO : xOK N) : xwc (xpw N m s q) = xcnt (fun c => xs_wrong (N (31 + c)) (xpw N m s q (95 + c)) (N 7) (N 8)) (N 0 * N 1) := by
  have c64 : N 0 * N 1 ≤ 64 := xce_le hO
  unfold xwc
  rw [xpw_lo (k := 0) (by decide) (by decide) (by decide), xpw_lo (k := 1) (by decide) (by decide) (by decide)]
  refine xcnt_congr fun c hc => ?_
  rw [xpw_lo (k := 7) (by decide) (by decide) (by decide), xpw_lo (k := 8) (by decide) (by decide) (by decide), xpw_lo (k := 31 + c) (by omega) (by omega) (by omega)]
theorem xfa_pw {N : Nat → Nat} {m s q o wi : Nat} (hO : xOK N) : xfa (xpw N m s q) o wi = xfa N o wi := by
  funext j
  have hb := hO.1
  unfold xfa xfaP
  rw [xpw_lo (k := 1) (by decide) (by decide) (by decide), xpw_lo (k := 2) (by decide) (by decide) (by decide)]
  by_cases h : wi ≤ j % N 1
  · rw [if_pos h, if_pos h]
    refine xsum_congr fun p hp => ?_
    unfold xth
    rw [xpw_lo (k := 1) (by decide) (by decide) (by decide), xpw_lo (k := 11 + 4 * p) (by omega) (by omega) (by omega), xpw_lo (k := 12 + 4 * p) (by omega) (by omega) (by omega), xpw_lo (k := 13 + 4 * p) (by omega) (by omega) (by omega), xpw_lo (k := 14 + 4 * p) (by omega) (by omega) (by omega)]
  · rw [if_neg h, if_neg h]
theorem xtg_le : ∀ s q, xtg s q ≤ 2 * s
  | 0, _ => Nat.le_refl _
  | s + 1, q => by
    show xtg s (q / 3) + q % 3 ≤ _
    have := xtg_le s (q / 3)
    omega
theorem xtb_le {N : Nat → Nat} {m n : Nat} (hO : xOK N) (h4 : N 4 ≤ 9999) (hm : m ≤ 20) (hn : n ≤ 5) : ∀ w, (xtb N m n w).1 ≤ 65 ∧ (xtb N m n w).2.1 ≤ 10 ∧ (xtb N m n w).2.2 ≤ w - 1
  | 0 => ⟨Nat.le_refl _, Nat.zero_le _, Nat.le_refl _⟩
  | w + 1 => by
    have := xtb_le hO h4 hm hn w
    have h1 := xwc_le (xpw_ok hO h4 hm n w hn)
    have h2 := xtg_le n w
    by_cases h : xwc (xpw N m n w) < (xtb N m n w).1 ∨ (xwc (xpw N m n w) = (xtb N m n w).1 ∧ xtg n w < (xtb N m n w).2.1)
    · rw [xtb_y h]
      show xwc _ ≤ 65 ∧ xtg n w ≤ 10 ∧ w ≤ w + 1 - 1
      omega
    · rw [xtb_n h]
      omega
/-- the class holds the best of the first w ways -/
def xTB (N : Nat → Nat) (m w : Nat) (I : Nat → Nat → Int32) : Prop := I 24 8 = nI (xtb N m (N 2) w).1 ∧ I 24 9 = nI (m * (xtb N m (N 2) w).2.1) ∧ (0 < w → ∀ p, p < N 2 → I 41 p = nI (m * ((xtb N m (N 2) w).2.2 / 3 ^ (N 2 - 1 - p) % 3)))
theorem xTB_fr {N : Nat → Nat} {m w : Nat} {I I' : Nat → Nat → Int32} (h1 : I' 24 = I 24) (h2 : I' 41 = I 41) (h : xTB N m w I) : xTB N m w I' := ⟨by rw [h1]; exact h.1, by rw [h1]; exact h.2.1, by rw [h2]; exact h.2.2⟩
set_option maxHeartbeats 4000000 in
theorem c_weighTurns {d : Nat} {b : Bool} {I : Nat → Nat → Int32} {L : Nat → Nat → Int64} {N : Nat → Nat} (hN : xPN N 1 I) (hO : xOK N) {k tg f sh : Nat} (hk : k < 6) (ht : tg < 1000) (hf : f < 1000) (hsh : sh < 1000) {wt : Nat → Nat} (hw : ∀ c, c < N 0 * N 1 → I (34 + k) c = nI (wt c)) (bw : ∀ c, c < N 0 * N 1 → wt c < 2 ^ 31) (h8 : I 24 8 = nI f) (h9 : I 24 9 = nI sh) {x1 : Int32} (e_x1 : x1 = nI tg) : xm_Z (d + 4) 87 [.ref 24, .ref (34 + k), .int x1] (xS b, I, L, xP b) (fun rz hz => rz = none ∧ ((xcnt (fun c => xs_wrong (N (31 + c)) (wt c) (N 7) (N 8)) (N 0 * N 1) < f ∨ (xcnt (fun c => xs_wrong (N (31 + c)) (wt c) (N 7) (N 8)) (N 0 * N 1) = f ∧ tg < sh)) → hz = (xS b, va_up (xm_up (xm_up I 24 8 (nI (xcnt (fun c => xs_wrong (N (31 + c)) (wt c) (N 7) (N 8)) (N 0 * N 1)))) 24 9 (nI tg)) 41 (va_cpy ((xm_up (xm_up I 24 8 (nI (xcnt (fun c => xs_wrong (N (31 + c)) (wt c) (N 7) (N 8)) (N 0 * N 1)))) 24 9 (nI tg)) 40) ((xm_up (xm_up I 24 8 (nI (xcnt (fun c => xs_wrong (N (31 + c)) (wt c) (N 7) (N 8)) (N 0 * N 1)))) 24 9 (nI tg)) 41) 0 0 5), L, xP b)) ∧ (¬ (xcnt (fun c => xs_wrong (N (31 + c)) (wt c) (N 7) (N 8)) (N 0 * N 1) < f ∨ (xcnt (fun c => xs_wrong (N (31 + c)) (wt c) (N 7) (N 8)) (N 0 * N 1) = f ∧ tg < sh)) → hz = (xS b, I, L, xP b))) := by
  subst e_x1
  have hb := hO.1
  have c64 : N 0 * N 1 ≤ 64 := xce_le hO
  obtain ⟨W0, hW⟩ : ∃ W0, W0 = xcnt (fun c => xs_wrong (N (31 + c)) (wt c) (N 7) (N 8)) (N 0 * N 1) := ⟨_, rfl⟩
  have w64 : W0 ≤ 64 := by rw [hW]; exact Nat.le_trans (xcnt_le _ _) c64
  refine xw_S xb_87 (l := [.ref 24, .ref (34 + k), .int (nI tg), .float 0]) (Nat.le_of_ble_eq_true rfl) rfl ?_
  refine xw_go xb_87 3 (f1 := (5, [.ref 24, .ref (34 + k), .int (nI tg), .float 0], [.ref (34 + k), .ref 1])) (h1 := (xS b, I, L, xP b)) rfl ⟨rfl, trivial⟩ ?_
  refine xw_call xb_87 rfl rfl rfl rfl rfl (Or.inr ⟨_, _, rfl, rfl⟩) (c_wrongIn (I := I) (R := N 0) (C := N 1) hN.1.1 hN.1.2.1 (by omega) (by omega) (so := fun c => N (31 + c)) (wt := wt) hN.2.1 hO.2.1 (w := 34 + k) (xS_34 hk) hw bw hN.1.2.2.2.2.2.2.2.1 (by omega) hN.1.2.2.2.2.2.2.2.2.1 (by omega)) ?_
  rintro _ _ ⟨rfl, rfl⟩
  refine xw_at (f' := (8, [.ref 24, .ref (34 + k), .int (nI tg), .float 0], [.int (nI (xcnt (fun c => xs_wrong (N (31 + c)) (wt c) (N 7) (N 8)) (N 0 * N 1)))])) (h' := (xS b, I, L, xP b)) rfl rfl ?_
  refine xw_go xb_87 4 (f1 := (14, [.ref 24, .ref (34 + k), .int (nI tg), .int (nI (xcnt (fun c => xs_wrong (N (31 + c)) (wt c) (N 7) (N 8)) (N 0 * N 1)))], [.int (I 24 8), .int (nI (xcnt (fun c => xs_wrong (N (31 + c)) (wt c) (N 7) (N 8)) (N 0 * N 1)))])) (h1 := (xS b, I, L, xP b)) rfl ⟨rfl, trivial⟩ ?_
  refine xw_cong (l' := [.ref 24, .ref (34 + k), .int (nI tg), .int (nI (xcnt (fun c => xs_wrong (N (31 + c)) (wt c) (N 7) (N 8)) (N 0 * N 1)))]) (st' := [.int (nI f), .int (nI (xcnt (fun c => xs_wrong (N (31 + c)) (wt c) (N 7) (N 8)) (N 0 * N 1)))]) (h' := (xS b, I, L, xP b)) rfl (show ([.int (I 24 8), .int (nI (xcnt (fun c => xs_wrong (N (31 + c)) (wt c) (N 7) (N 8)) (N 0 * N 1)))] : List Value) = [.int (nI f), .int (nI (xcnt (fun c => xs_wrong (N (31 + c)) (wt c) (N 7) (N 8)) (N 0 * N 1)))] from ?_) rfl ?_
  · rw [h8]
  refine xw_go xb_87 1 (f1 := (if (nI (xcnt (fun c => xs_wrong (N (31 + c)) (wt c) (N 7) (N 8)) (N 0 * N 1))) < (nI f) then 33 else 17, [.ref 24, .ref (34 + k), .int (nI tg), .int (nI (xcnt (fun c => xs_wrong (N (31 + c)) (wt c) (N 7) (N 8)) (N 0 * N 1)))], [])) (h1 := (xS b, I, L, xP b)) rfl trivial ?_
  refine xw_if (fun c_14 => ?_) (fun c_14 => ?_)
  · skip
    refine xw_go xb_87 13 (f1 := (54, [.ref 24, .ref (34 + k), .int (nI tg), .int (nI (xcnt (fun c => xs_wrong (N (31 + c)) (wt c) (N 7) (N 8)) (N 0 * N 1)))], [.int 5, .int 0, .ref 41, .int 0, .ref 40])) (h1 := (xS b, xm_up (xm_up I 24 8 (nI (xcnt (fun c => xs_wrong (N (31 + c)) (wt c) (N 7) (N 8)) (N 0 * N 1)))) 24 9 (nI tg), L, xP b)) rfl ⟨rfl, rfl, rfl, rfl, trivial⟩ ?_
    refine xw_cpI xb_87 rfl rfl rfl ⟨5, 5, rfl, rfl, by decide, by decide, by decide, by decide, by decide⟩ ?_
    refine xw_at (f' := (57, [.ref 24, .ref (34 + k), .int (nI tg), .int (nI (xcnt (fun c => xs_wrong (N (31 + c)) (wt c) (N 7) (N 8)) (N 0 * N 1)))], [])) (h' := (xS b, va_up (xm_up (xm_up I 24 8 (nI (xcnt (fun c => xs_wrong (N (31 + c)) (wt c) (N 7) (N 8)) (N 0 * N 1)))) 24 9 (nI tg)) 41 (va_cpy ((xm_up (xm_up I 24 8 (nI (xcnt (fun c => xs_wrong (N (31 + c)) (wt c) (N 7) (N 8)) (N 0 * N 1)))) 24 9 (nI tg)) 40) ((xm_up (xm_up I 24 8 (nI (xcnt (fun c => xs_wrong (N (31 + c)) (wt c) (N 7) (N 8)) (N 0 * N 1)))) 24 9 (nI tg)) 41) (0 : Int32).toNatClampNeg (0 : Int32).toNatClampNeg (5 : Int32).toNatClampNeg), L, xP b)) rfl rfl ?_
    refine xw_ret xb_87 rfl rfl trivial ?_
    have hy : (xcnt (fun c => xs_wrong (N (31 + c)) (wt c) (N 7) (N 8)) (N 0 * N 1) < f ∨ (xcnt (fun c => xs_wrong (N (31 + c)) (wt c) (N 7) (N 8)) (N 0 * N 1) = f ∧ tg < sh)) := by
      rw [← hW]
      try simp only [xB_dec, Classical.not_not] at c_14
      try simp (disch := omega) only [xt_eq, xt_lt, xt_le, xkt_0, xkt_1, xkt_2, xkt_3, xkt_4, xkt_5, xkt_6, xkt_7, xkt_8, xkt_9, xkt_10, xkt_11, xkt_12, xkt_13, xkt_14, xkt_16, xkt_20, xkt_24, xkt_31, xkt_32, xkt_40, xkt_44, xkt_47, xkt_48, xkt_57, xkt_59, xkt_60, xkt_63, xkt_64, xkt_65, xkt_72, xkt_95, xkt_99, xkt_100, xkt_101, xkt_103, xkt_110, xkt_112, xkt_113, xkt_114, xkt_119, xkt_126, xkt_159, xkt_576, xkt_999, xkt_9999, xkt_65536, xkt_999999, xkt_m1, xkt_m2, xkt_m3, xkt_m4, xkt_m11, xkt_m12, xkt_m13, xkt_m14, xkt_m20, xjt_0, xjt_1, xjt_2, xjt_3, xjt_4, xjt_5, xjt_6, xjt_7, xjt_8, xjt_9, xjt_10, xjt_11, xjt_12, xjt_13, xjt_14, xjt_16, xjt_20, xjt_24, xjt_31, xjt_32, xjt_40, xjt_44, xjt_47, xjt_48, xjt_57, xjt_59, xjt_60, xjt_63, xjt_64, xjt_65, xjt_72, xjt_95, xjt_99, xjt_100, xjt_101, xjt_103, xjt_110, xjt_112, xjt_113, xjt_114, xjt_119, xjt_126, xjt_159, xjt_576, xjt_999, xjt_9999, xjt_65536, xjt_999999, xt64, xt_n, not_true_eq_false, not_false_eq_true, Classical.not_not] at c_14
      all_goals omega
    exact ⟨rfl, fun _ => rfl, fun h => absurd hy h⟩
  · skip
    refine xw_go xb_87 3 (f1 := (22, [.ref 24, .ref (34 + k), .int (nI tg), .int (nI (xcnt (fun c => xs_wrong (N (31 + c)) (wt c) (N 7) (N 8)) (N 0 * N 1)))], [.int (I 24 8), .int (nI (xcnt (fun c => xs_wrong (N (31 + c)) (wt c) (N 7) (N 8)) (N 0 * N 1)))])) (h1 := (xS b, I, L, xP b)) rfl ⟨rfl, trivial⟩ ?_
    refine xw_cong (l' := [.ref 24, .ref (34 + k), .int (nI tg), .int (nI (xcnt (fun c => xs_wrong (N (31 + c)) (wt c) (N 7) (N 8)) (N 0 * N 1)))]) (st' := [.int (nI f), .int (nI (xcnt (fun c => xs_wrong (N (31 + c)) (wt c) (N 7) (N 8)) (N 0 * N 1)))]) (h' := (xS b, I, L, xP b)) rfl (show ([.int (I 24 8), .int (nI (xcnt (fun c => xs_wrong (N (31 + c)) (wt c) (N 7) (N 8)) (N 0 * N 1)))] : List Value) = [.int (nI f), .int (nI (xcnt (fun c => xs_wrong (N (31 + c)) (wt c) (N 7) (N 8)) (N 0 * N 1)))] from ?_) rfl ?_
    · rw [h8]
    refine xw_go xb_87 1 (f1 := (if ¬ (nI (xcnt (fun c => xs_wrong (N (31 + c)) (wt c) (N 7) (N 8)) (N 0 * N 1))) = (nI f) then 57 else 25, [.ref 24, .ref (34 + k), .int (nI tg), .int (nI (xcnt (fun c => xs_wrong (N (31 + c)) (wt c) (N 7) (N 8)) (N 0 * N 1)))], [])) (h1 := (xS b, I, L, xP b)) rfl trivial ?_
    refine xw_if (fun c_22 => ?_) (fun c_22 => ?_)
    · skip
      refine xw_ret xb_87 rfl rfl trivial ?_
      have hy : ¬ (xcnt (fun c => xs_wrong (N (31 + c)) (wt c) (N 7) (N 8)) (N 0 * N 1) < f ∨ (xcnt (fun c => xs_wrong (N (31 + c)) (wt c) (N 7) (N 8)) (N 0 * N 1) = f ∧ tg < sh)) := by
        rw [← hW]
        try simp only [xB_dec, Classical.not_not] at c_14 c_22
        try simp (disch := omega) only [xt_eq, xt_lt, xt_le, xkt_0, xkt_1, xkt_2, xkt_3, xkt_4, xkt_5, xkt_6, xkt_7, xkt_8, xkt_9, xkt_10, xkt_11, xkt_12, xkt_13, xkt_14, xkt_16, xkt_20, xkt_24, xkt_31, xkt_32, xkt_40, xkt_44, xkt_47, xkt_48, xkt_57, xkt_59, xkt_60, xkt_63, xkt_64, xkt_65, xkt_72, xkt_95, xkt_99, xkt_100, xkt_101, xkt_103, xkt_110, xkt_112, xkt_113, xkt_114, xkt_119, xkt_126, xkt_159, xkt_576, xkt_999, xkt_9999, xkt_65536, xkt_999999, xkt_m1, xkt_m2, xkt_m3, xkt_m4, xkt_m11, xkt_m12, xkt_m13, xkt_m14, xkt_m20, xjt_0, xjt_1, xjt_2, xjt_3, xjt_4, xjt_5, xjt_6, xjt_7, xjt_8, xjt_9, xjt_10, xjt_11, xjt_12, xjt_13, xjt_14, xjt_16, xjt_20, xjt_24, xjt_31, xjt_32, xjt_40, xjt_44, xjt_47, xjt_48, xjt_57, xjt_59, xjt_60, xjt_63, xjt_64, xjt_65, xjt_72, xjt_95, xjt_99, xjt_100, xjt_101, xjt_103, xjt_110, xjt_112, xjt_113, xjt_114, xjt_119, xjt_126, xjt_159, xjt_576, xjt_999, xjt_9999, xjt_65536, xjt_999999, xt64, xt_n, not_true_eq_false, not_false_eq_true, Classical.not_not] at c_14 c_22
        all_goals omega
      exact ⟨rfl, fun h => absurd h hy, fun _ => rfl⟩
    · skip
      refine xw_go xb_87 3 (f1 := (30, [.ref 24, .ref (34 + k), .int (nI tg), .int (nI (xcnt (fun c => xs_wrong (N (31 + c)) (wt c) (N 7) (N 8)) (N 0 * N 1)))], [.int (I 24 9), .int (nI tg)])) (h1 := (xS b, I, L, xP b)) rfl ⟨rfl, trivial⟩ ?_
      refine xw_cong (l' := [.ref 24, .ref (34 + k), .int (nI tg), .int (nI (xcnt (fun c => xs_wrong (N (31 + c)) (wt c) (N 7) (N 8)) (N 0 * N 1)))]) (st' := [.int (nI sh), .int (nI tg)]) (h' := (xS b, I, L, xP b)) rfl (show ([.int (I 24 9), .int (nI tg)] : List Value) = [.int (nI sh), .int (nI tg)] from ?_) rfl ?_
      · rw [h9]
      refine xw_go xb_87 1 (f1 := (if (nI sh) ≤ (nI tg) then 57 else 33, [.ref 24, .ref (34 + k), .int (nI tg), .int (nI (xcnt (fun c => xs_wrong (N (31 + c)) (wt c) (N 7) (N 8)) (N 0 * N 1)))], [])) (h1 := (xS b, I, L, xP b)) rfl trivial ?_
      refine xw_if (fun c_30 => ?_) (fun c_30 => ?_)
      · skip
        refine xw_ret xb_87 rfl rfl trivial ?_
        have hy : ¬ (xcnt (fun c => xs_wrong (N (31 + c)) (wt c) (N 7) (N 8)) (N 0 * N 1) < f ∨ (xcnt (fun c => xs_wrong (N (31 + c)) (wt c) (N 7) (N 8)) (N 0 * N 1) = f ∧ tg < sh)) := by
          rw [← hW]
          try simp only [xB_dec, Classical.not_not] at c_14 c_22 c_30
          try simp (disch := omega) only [xt_eq, xt_lt, xt_le, xkt_0, xkt_1, xkt_2, xkt_3, xkt_4, xkt_5, xkt_6, xkt_7, xkt_8, xkt_9, xkt_10, xkt_11, xkt_12, xkt_13, xkt_14, xkt_16, xkt_20, xkt_24, xkt_31, xkt_32, xkt_40, xkt_44, xkt_47, xkt_48, xkt_57, xkt_59, xkt_60, xkt_63, xkt_64, xkt_65, xkt_72, xkt_95, xkt_99, xkt_100, xkt_101, xkt_103, xkt_110, xkt_112, xkt_113, xkt_114, xkt_119, xkt_126, xkt_159, xkt_576, xkt_999, xkt_9999, xkt_65536, xkt_999999, xkt_m1, xkt_m2, xkt_m3, xkt_m4, xkt_m11, xkt_m12, xkt_m13, xkt_m14, xkt_m20, xjt_0, xjt_1, xjt_2, xjt_3, xjt_4, xjt_5, xjt_6, xjt_7, xjt_8, xjt_9, xjt_10, xjt_11, xjt_12, xjt_13, xjt_14, xjt_16, xjt_20, xjt_24, xjt_31, xjt_32, xjt_40, xjt_44, xjt_47, xjt_48, xjt_57, xjt_59, xjt_60, xjt_63, xjt_64, xjt_65, xjt_72, xjt_95, xjt_99, xjt_100, xjt_101, xjt_103, xjt_110, xjt_112, xjt_113, xjt_114, xjt_119, xjt_126, xjt_159, xjt_576, xjt_999, xjt_9999, xjt_65536, xjt_999999, xt64, xt_n, not_true_eq_false, not_false_eq_true, Classical.not_not] at c_14 c_22 c_30
          all_goals omega
        exact ⟨rfl, fun h => absurd h hy, fun _ => rfl⟩
      · skip
        refine xw_go xb_87 13 (f1 := (54, [.ref 24, .ref (34 + k), .int (nI tg), .int (nI (xcnt (fun c => xs_wrong (N (31 + c)) (wt c) (N 7) (N 8)) (N 0 * N 1)))], [.int 5, .int 0, .ref 41, .int 0, .ref 40])) (h1 := (xS b, xm_up (xm_up I 24 8 (nI (xcnt (fun c => xs_wrong (N (31 + c)) (wt c) (N 7) (N 8)) (N 0 * N 1)))) 24 9 (nI tg), L, xP b)) rfl ⟨rfl, rfl, rfl, rfl, trivial⟩ ?_
        refine xw_cpI xb_87 rfl rfl rfl ⟨5, 5, rfl, rfl, by decide, by decide, by decide, by decide, by decide⟩ ?_
        refine xw_at (f' := (57, [.ref 24, .ref (34 + k), .int (nI tg), .int (nI (xcnt (fun c => xs_wrong (N (31 + c)) (wt c) (N 7) (N 8)) (N 0 * N 1)))], [])) (h' := (xS b, va_up (xm_up (xm_up I 24 8 (nI (xcnt (fun c => xs_wrong (N (31 + c)) (wt c) (N 7) (N 8)) (N 0 * N 1)))) 24 9 (nI tg)) 41 (va_cpy ((xm_up (xm_up I 24 8 (nI (xcnt (fun c => xs_wrong (N (31 + c)) (wt c) (N 7) (N 8)) (N 0 * N 1)))) 24 9 (nI tg)) 40) ((xm_up (xm_up I 24 8 (nI (xcnt (fun c => xs_wrong (N (31 + c)) (wt c) (N 7) (N 8)) (N 0 * N 1)))) 24 9 (nI tg)) 41) (0 : Int32).toNatClampNeg (0 : Int32).toNatClampNeg (5 : Int32).toNatClampNeg), L, xP b)) rfl rfl ?_
        refine xw_ret xb_87 rfl rfl trivial ?_
        have hy : (xcnt (fun c => xs_wrong (N (31 + c)) (wt c) (N 7) (N 8)) (N 0 * N 1) < f ∨ (xcnt (fun c => xs_wrong (N (31 + c)) (wt c) (N 7) (N 8)) (N 0 * N 1) = f ∧ tg < sh)) := by
          rw [← hW]
          try simp only [xB_dec, Classical.not_not] at c_14 c_22 c_30
          try simp (disch := omega) only [xt_eq, xt_lt, xt_le, xkt_0, xkt_1, xkt_2, xkt_3, xkt_4, xkt_5, xkt_6, xkt_7, xkt_8, xkt_9, xkt_10, xkt_11, xkt_12, xkt_13, xkt_14, xkt_16, xkt_20, xkt_24, xkt_31, xkt_32, xkt_40, xkt_44, xkt_47, xkt_48, xkt_57, xkt_59, xkt_60, xkt_63, xkt_64, xkt_65, xkt_72, xkt_95, xkt_99, xkt_100, xkt_101, xkt_103, xkt_110, xkt_112, xkt_113, xkt_114, xkt_119, xkt_126, xkt_159, xkt_576, xkt_999, xkt_9999, xkt_65536, xkt_999999, xkt_m1, xkt_m2, xkt_m3, xkt_m4, xkt_m11, xkt_m12, xkt_m13, xkt_m14, xkt_m20, xjt_0, xjt_1, xjt_2, xjt_3, xjt_4, xjt_5, xjt_6, xjt_7, xjt_8, xjt_9, xjt_10, xjt_11, xjt_12, xjt_13, xjt_14, xjt_16, xjt_20, xjt_24, xjt_31, xjt_32, xjt_40, xjt_44, xjt_47, xjt_48, xjt_57, xjt_59, xjt_60, xjt_63, xjt_64, xjt_65, xjt_72, xjt_95, xjt_99, xjt_100, xjt_101, xjt_103, xjt_110, xjt_112, xjt_113, xjt_114, xjt_119, xjt_126, xjt_159, xjt_576, xjt_999, xjt_9999, xjt_65536, xjt_999999, xt64, xt_n, not_true_eq_false, not_false_eq_true, Classical.not_not] at c_14 c_22 c_30
          all_goals omega
        exact ⟨rfl, fun _ => rfl, fun h => absurd hy h⟩

set_option maxHeartbeats 4000000 in
theorem c_tryTurns {b : Bool} {L : Nat → Nat → Int64} {N : Nat → Nat} (hO : xOK N) (h4 : N 4 ≤ 9999) {m : Nat} (hm : 1 ≤ m ∧ m ≤ 20) : ∀ (r s q d : Nat) (I : Nat → Nat → Int32), s + r = N 2 → xPN N 1 I → (∀ p, p < N 2 → ∀ j, j < N 0 * N 1 → I (28 + p) j = nI (xta N (2 ^ p) (N 5) j)) → (∀ j, j < N 0 * N 1 → I (34 + s) j = nI (xpw N m s q (95 + j))) → (∀ p, p < s → I 40 p = nI (m * (q / 3 ^ (s - 1 - p) % 3))) → xTB N m (q * 3 ^ r) I → ∀ {x1 x2 x3 : Int32}, x1 = nI s → x2 = nI m → x3 = nI (m * xtg s q) → xm_Z (d + r + 5) 86 [.ref 24, .int x1, .int x2, .int x3] (xS b, I, L, xP b) (fun rz hz => rz = none ∧ ∃ I', hz = (xS b, I', L, xP b) ∧ xTB N m ((q + 1) * 3 ^ r) I' ∧ (∀ a, a ≠ 24 → a ≠ 40 → a ≠ 41 → (a ≤ 34 + s ∨ 40 ≤ a) → I' a = I a) ∧ (∀ k, k ≠ 8 → k ≠ 9 → I' 24 k = I 24 k) ∧ ∀ p, p < s → I' 40 p = I 40 p)
  | 0, s, q, d, I, hs, hN, ha, hr, ht, hB, x1, x2, x3, e1, e2, e3 => by
    subst e1
    subst e2
    subst e3
    have hb := hO.1
    have hs2 : s = N 2 := by omega
    have c64 : N 0 * N 1 ≤ 64 := xce_le hO
    obtain ⟨t1, t2, t3⟩ := xtb_le hO h4 hm.2 (by omega) (n := N 2) (q * 3 ^ 0)
    have g1 := xtg_le s q
    have g2 : m * xtg s q ≤ 20 * 10 := Nat.mul_le_mul hm.2 (by omega)
    have g3 : m * (xtb N m (N 2) (q * 3 ^ 0)).2.1 ≤ 20 * 10 := Nat.mul_le_mul hm.2 t2
    refine xw_S xb_86 (l := [.ref 24, .int (nI s), .int (nI m), .int (nI (m * xtg s q)), .float 0]) (Nat.le_of_ble_eq_true rfl) rfl ?_
    refine xw_go xb_86 4 (f1 := (8, [.ref 24, .int (nI s), .int (nI m), .int (nI (m * xtg s q)), .float 0], [.int (I 1 5), .int (nI s)])) (h1 := (xS b, I, L, xP b)) rfl ⟨rfl, rfl, trivial⟩ ?_
    refine xw_cong (l' := [.ref 24, .int (nI s), .int (nI m), .int (nI (m * xtg s q)), .float 0]) (st' := [.int (nI (N 2)), .int (nI s)]) (h' := (xS b, I, L, xP b)) rfl (show ([.int (I 1 5), .int (nI s)] : List Value) = [.int (nI (N 2)), .int (nI s)] from ?_) rfl ?_
    · rw [hN.1.2.2.1]
    refine xw_go xb_86 1 (f1 := (if (nI (N 2)) ≤ (nI s) then 16 else 11, [.ref 24, .int (nI s), .int (nI m), .int (nI (m * xtg s q)), .float 0], [])) (h1 := (xS b, I, L, xP b)) rfl trivial ?_
    refine xw_if (fun c_8 => ?_) (fun c_8 => ?_)
    · skip
      refine xw_go xb_86 5 (f1 := (23, [.ref 24, .int (nI s), .int (nI m), .int (nI (m * xtg s q)), .float 0], [xm_o (xP b 33 (nI s).toNatClampNeg), .ref 24])) (h1 := (xS b, I, L, xP b)) rfl ⟨rfl, (xn_ar (n := s) (N := 6) rfl (by omega) (by decide)), ⟨Nat.le_of_ble_eq_true rfl, Nat.le_of_ble_eq_true rfl⟩, trivial⟩ ?_
      refine xw_cong (l' := [.ref 24, .int (nI s), .int (nI m), .int (nI (m * xtg s q)), .float 0]) (st' := [.ref (34 + s), .ref 24]) (h' := (xS b, I, L, xP b)) rfl (show ([xm_o (xP b 33 (nI s).toNatClampNeg), .ref 24] : List Value) = [.ref (34 + s), .ref 24] from ?_) rfl ?_
      · rw [xn_cl (by omega), xP_33 (by omega)]
        rfl
      refine xw_go xb_86 1 (f1 := (24, [.ref 24, .int (nI s), .int (nI m), .int (nI (m * xtg s q)), .float 0], [.int (nI (m * xtg s q)), .ref (34 + s), .ref 24])) (h1 := (xS b, I, L, xP b)) rfl trivial ?_
      refine xw_call xb_86 rfl rfl rfl rfl rfl (Or.inr ⟨_, _, rfl, rfl⟩) (c_weighTurns (I := I) hN hO (k := s) (tg := m * xtg s q) (f := (xtb N m (N 2) (q * 3 ^ 0)).1) (sh := m * (xtb N m (N 2) (q * 3 ^ 0)).2.1) (by omega) (by omega) (by omega) (by omega) (wt := fun c => xpw N m s q (95 + c)) hr (fun c hc => by have := xpw_w (N := N) (m := m) (s := s) (q := q) hO h4 hm.2 (by omega) (show c < 64 by omega); show xpw N m s q (95 + c) < _; omega) hB.1 hB.2.1 rfl) ?_
      rintro _ _ ⟨rfl, k1, k2⟩
      have hcm : (m * xtg s q < m * (xtb N m (N 2) (q * 3 ^ 0)).2.1) ↔ (xtg s q < (xtb N m (N 2) (q * 3 ^ 0)).2.1) := Nat.mul_lt_mul_left (by omega)
      rw [← xwc_pw hO, hcm] at k1 k2
      have e0 : q * 3 ^ 0 = q := by rw [Nat.pow_zero, Nat.mul_one]
      have e9 : (q + 1) * 3 ^ 0 = q + 1 := by rw [Nat.pow_zero, Nat.mul_one]
      rw [e0] at k1 k2 hB
      rw [e9]
      rw [hs2] at k1 k2 ht hr
      by_cases hc : xwc (xpw N m (N 2) q) < (xtb N m (N 2) q).1 ∨ (xwc (xpw N m (N 2) q) = (xtb N m (N 2) q).1 ∧ xtg (N 2) q < (xtb N m (N 2) q).2.1)
      · have k3 := k1 hc
        subst k3
        refine xw_ret xb_86 rfl rfl trivial ?_
        refine ⟨rfl, _, rfl, ⟨?_, ?_, fun _ p hp => ?_⟩, fun a h1 h2 h3 _ => ?_, fun k h1 h2 => ?_, fun p hp => ?_⟩
        · rw [xtb_y hc]
          rfl
        · rw [xtb_y hc]
          rfl
        · rw [xtb_y hc, ← ht p hp]
          show (if 0 ≤ p ∧ p < 0 + 5 then I 40 (0 + (p - 0)) else I 41 p) = _
          rw [if_pos (by omega), Nat.zero_add, Nat.sub_zero]
        · rw [xm_vu_o h3, xm_up_o h1, xm_up_o h1]
        · rw [xm_vu_o (by decide), xm_up_ne (Or.inr h2), xm_up_ne (Or.inr h1)]
        · rfl
      · have k3 := k2 hc
        subst k3
        refine xw_ret xb_86 rfl rfl trivial ?_
        refine ⟨rfl, _, rfl, ⟨?_, ?_, fun _ p hp => ?_⟩, fun a h1 h2 h3 _ => rfl, fun k h1 h2 => rfl, fun p hp => rfl⟩
        · rw [xtb_n hc]
          exact hB.1
        · rw [xtb_n hc]
          exact hB.2.1
        · rw [xtb_n hc]
          by_cases hq : 0 < q
          · exact hB.2.2 hq p hp
          · exfalso
            have : q = 0 := by omega
            subst this
            have e : (xtb N m (N 2) 0).1 = 65 := rfl
            have h6 := xwc_le (xpw_ok hO h4 hm.2 (N 2) 0 (by omega))
            omega
    · skip
      exfalso
      try simp only [xB_dec, Classical.not_not] at c_8
      try simp (disch := omega) only [xt_eq, xt_lt, xt_le, xkt_0, xkt_1, xkt_2, xkt_3, xkt_4, xkt_5, xkt_6, xkt_7, xkt_8, xkt_9, xkt_10, xkt_11, xkt_12, xkt_13, xkt_14, xkt_16, xkt_20, xkt_24, xkt_31, xkt_32, xkt_40, xkt_44, xkt_47, xkt_48, xkt_57, xkt_59, xkt_60, xkt_63, xkt_64, xkt_65, xkt_72, xkt_95, xkt_99, xkt_100, xkt_101, xkt_103, xkt_110, xkt_112, xkt_113, xkt_114, xkt_119, xkt_126, xkt_159, xkt_576, xkt_999, xkt_9999, xkt_65536, xkt_999999, xkt_m1, xkt_m2, xkt_m3, xkt_m4, xkt_m11, xkt_m12, xkt_m13, xkt_m14, xkt_m20, xjt_0, xjt_1, xjt_2, xjt_3, xjt_4, xjt_5, xjt_6, xjt_7, xjt_8, xjt_9, xjt_10, xjt_11, xjt_12, xjt_13, xjt_14, xjt_16, xjt_20, xjt_24, xjt_31, xjt_32, xjt_40, xjt_44, xjt_47, xjt_48, xjt_57, xjt_59, xjt_60, xjt_63, xjt_64, xjt_65, xjt_72, xjt_95, xjt_99, xjt_100, xjt_101, xjt_103, xjt_110, xjt_112, xjt_113, xjt_114, xjt_119, xjt_126, xjt_159, xjt_576, xjt_999, xjt_9999, xjt_65536, xjt_999999, xt64, xt_n, not_true_eq_false, not_false_eq_true, Classical.not_not] at c_8
      all_goals omega
  | r + 1, s, q, d, I, hs, hN, ha, hr, ht, hB, x1, x2, x3, e1, e2, e3 => by
    subst e1
    subst e2
    subst e3
    have hb := hO.1
    have c64 : N 0 * N 1 ≤ 64 := xce_le hO
    show xm_Z ((d + r + 5) + 1) _ _ _ _
    refine xw_S xb_86 (l := [.ref 24, .int (nI s), .int (nI m), .int (nI (m * xtg s q)), .float 0]) (Nat.le_of_ble_eq_true rfl) rfl ?_
    refine xw_go xb_86 4 (f1 := (8, [.ref 24, .int (nI s), .int (nI m), .int (nI (m * xtg s q)), .float 0], [.int (I 1 5), .int (nI s)])) (h1 := (xS b, I, L, xP b)) rfl ⟨rfl, rfl, trivial⟩ ?_
    refine xw_cong (l' := [.ref 24, .int (nI s), .int (nI m), .int (nI (m * xtg s q)), .float 0]) (st' := [.int (nI (N 2)), .int (nI s)]) (h' := (xS b, I, L, xP b)) rfl (show ([.int (I 1 5), .int (nI s)] : List Value) = [.int (nI (N 2)), .int (nI s)] from ?_) rfl ?_
    · rw [hN.1.2.2.1]
    refine xw_go xb_86 1 (f1 := (if (nI (N 2)) ≤ (nI s) then 16 else 11, [.ref 24, .int (nI s), .int (nI m), .int (nI (m * xtg s q)), .float 0], [])) (h1 := (xS b, I, L, xP b)) rfl trivial ?_
    refine xw_if (fun c_8 => ?_) (fun c_8 => ?_)
    · skip
      exfalso
      try simp only [xB_dec, Classical.not_not] at c_8
      try simp (disch := omega) only [xt_eq, xt_lt, xt_le, xkt_0, xkt_1, xkt_2, xkt_3, xkt_4, xkt_5, xkt_6, xkt_7, xkt_8, xkt_9, xkt_10, xkt_11, xkt_12, xkt_13, xkt_14, xkt_16, xkt_20, xkt_24, xkt_31, xkt_32, xkt_40, xkt_44, xkt_47, xkt_48, xkt_57, xkt_59, xkt_60, xkt_63, xkt_64, xkt_65, xkt_72, xkt_95, xkt_99, xkt_100, xkt_101, xkt_103, xkt_110, xkt_112, xkt_113, xkt_114, xkt_119, xkt_126, xkt_159, xkt_576, xkt_999, xkt_9999, xkt_65536, xkt_999999, xkt_m1, xkt_m2, xkt_m3, xkt_m4, xkt_m11, xkt_m12, xkt_m13, xkt_m14, xkt_m20, xjt_0, xjt_1, xjt_2, xjt_3, xjt_4, xjt_5, xjt_6, xjt_7, xjt_8, xjt_9, xjt_10, xjt_11, xjt_12, xjt_13, xjt_14, xjt_16, xjt_20, xjt_24, xjt_31, xjt_32, xjt_40, xjt_44, xjt_47, xjt_48, xjt_57, xjt_59, xjt_60, xjt_63, xjt_64, xjt_65, xjt_72, xjt_95, xjt_99, xjt_100, xjt_101, xjt_103, xjt_110, xjt_112, xjt_113, xjt_114, xjt_119, xjt_126, xjt_159, xjt_576, xjt_999, xjt_9999, xjt_65536, xjt_999999, xt64, xt_n, not_true_eq_false, not_false_eq_true, Classical.not_not] at c_8
      all_goals omega
    · skip
      refine xw_go xb_86 3 (f1 := (if (nI s) < 5 then 28 else 16, [.ref 24, .int (nI s), .int (nI m), .int (nI (m * xtg s q)), .float 0], [])) (h1 := (xS b, I, L, xP b)) rfl trivial ?_
      refine xw_if (fun c_13 => ?_) (fun c_13 => ?_)
      · skip
        refine xw_go xb_86 2 (f1 := (31, [.ref 24, .int (nI s), .int (nI m), .int (nI (m * xtg s q)), .int 0], [])) (h1 := (xS b, I, L, xP b)) rfl trivial ?_
        refine xw_at (f' := (31, [.ref 24, .int (nI s), .int (nI m), .int (nI (m * xtg s q)), .int (nI 0)], [])) (h' := (xS b, I, L, xP b)) rfl rfl ?_
        refine xw_loopP 3 (fun t => (31, [.ref 24, .int (nI s), .int (nI m), .int (nI (m * xtg s q)), .int (nI t)], [])) (fun t h => ∃ J, h = (xS b, J, L, xP b) ∧ xTB N m ((3 * q + t) * 3 ^ r) J ∧ (∀ a, a ≠ 24 → a ≠ 40 → a ≠ 41 → (a ≤ 34 + s ∨ 40 ≤ a) → J a = I a) ∧ (∀ k, k ≠ 8 → k ≠ 9 → J 24 k = I 24 k) ∧ ∀ p, p < s → J 40 p = I 40 p) (fun t h htl hV ih => ?_) (fun h hV => ?_) 0 _ (Nat.zero_le _) ?_
        · obtain ⟨J, rfl, j2, j3, j4, j5⟩ := hV
          have hNJ : xPN N 1 J := xPN_fr (by omega) hN fun a h9 => j3 a (by omega) (by omega) (by omega) (by omega)
          have tm : t * m ≤ 2 * 20 := Nat.mul_le_mul (by omega) hm.2
          have tgq : nI (m * xtg s q) + nI t * nI m = nI (m * xtg (s + 1) (3 * q + t)) := by
            rw [pk_mul, nI_add]
            congr 1
            show _ = m * (xtg s ((3 * q + t) / 3) + (3 * q + t) % 3)
            rw [show (3 * q + t) / 3 = q by omega, show (3 * q + t) % 3 = t by omega, Nat.mul_add, Nat.mul_comm t m]
          have tr : ∀ p, p < s + 1 → (va_up (xm_up J 40 s (nI (t * m))) (34 + (s + 1)) (xfil (N 0 * N 1) (fun j => nI (min 9999 (xpw N m s q (95 + j) + t * m * xta N (2 ^ s) (N 5) j))) ((xm_up J 40 s (nI (t * m))) (34 + (s + 1))))) 40 p = nI (m * ((3 * q + t) / 3 ^ (s + 1 - 1 - p) % 3)) := fun p hp => by
            rw [xm_vu_o (by omega)]
            by_cases h : p = s
            · subst h
              rw [xm_up_at, show p + 1 - 1 - p = 0 by omega, Nat.pow_zero, Nat.div_one, show (3 * q + t) % 3 = t by omega, Nat.mul_comm]
            · rw [xm_up_ne (Or.inr h), j5 p (by omega), ht p (by omega), show s + 1 - 1 - p = (s - 1 - p) + 1 by omega, Nat.pow_succ, Nat.mul_comm _ 3, ← Nat.div_div_eq_div_mul, show (3 * q + t) / 3 = q by omega]
          refine xw_go xb_86 3 (f1 := (if 2 < (nI t) then 98 else 37, [.ref 24, .int (nI s), .int (nI m), .int (nI (m * xtg s q)), .int (nI t)], [])) (h1 := (xS b, J, L, xP b)) rfl trivial ?_
          refine xw_if (fun c_34 => ?_) (fun c_34 => ?_)
          · skip
            exfalso
            simp (disch := omega) only [xl_2, nI_ltI] at c_34
            omega
          · skip
            refine xw_go xb_86 7 (f1 := (47, [.ref 24, .int (nI s), .int (nI m), .int (nI (m * xtg s q)), .int (nI t)], [])) (h1 := (xS b, xm_up J 40 (nI s).toNatClampNeg ((nI t) * (nI m)), L, xP b)) rfl ⟨rfl, (xn_ar (n := s) (N := 5) rfl (by omega) (by decide)), trivial⟩ ?_
            refine xw_at (f' := (47, [.ref 24, .int (nI s), .int (nI m), .int (nI (m * xtg s q)), .int (nI t)], [])) (h' := (xS b, xm_up J 40 s (nI (t * m)), L, xP b)) rfl (show (xS b, xm_up J 40 (nI s).toNatClampNeg ((nI t) * (nI m)), L, xP b) = (xS b, xm_up J 40 s (nI (t * m)), L, xP b) from ?_) ?_
            · rw [xn_cl (by omega), pk_mul]
            refine xw_go xb_86 6 (f1 := (57, [.ref 24, .int (nI s), .int (nI m), .int (nI (m * xtg s q)), .int (nI t)], [xm_o (xP b 33 (nI s).toNatClampNeg), .ref 1])) (h1 := (xS b, xm_up J 40 s (nI (t * m)), L, xP b)) rfl ⟨rfl, rfl, (xn_ar (n := s) (N := 6) rfl (by omega) (by decide)), ⟨Nat.le_of_ble_eq_true rfl, Nat.le_of_ble_eq_true rfl⟩, trivial⟩ ?_
            refine xw_cong (l' := [.ref 24, .int (nI s), .int (nI m), .int (nI (m * xtg s q)), .int (nI t)]) (st' := [.ref (34 + s), .ref 1]) (h' := (xS b, xm_up J 40 s (nI (t * m)), L, xP b)) rfl (show ([xm_o (xP b 33 (nI s).toNatClampNeg), .ref 1] : List Value) = [.ref (34 + s), .ref 1] from ?_) rfl ?_
            · rw [xn_cl (by omega), xP_33 (by omega)]
              rfl
            refine xw_go xb_86 4 (f1 := (63, [.ref 24, .int (nI s), .int (nI m), .int (nI (m * xtg s q)), .int (nI t)], [xm_o (xP b 27 (nI s).toNatClampNeg), .ref (34 + s), .ref 1])) (h1 := (xS b, xm_up J 40 s (nI (t * m)), L, xP b)) rfl ⟨rfl, (xn_ar (n := s) (N := 5) rfl (by omega) (by decide)), ⟨Nat.le_of_ble_eq_true rfl, Nat.le_of_ble_eq_true rfl⟩, trivial⟩ ?_
            refine xw_cong (l' := [.ref 24, .int (nI s), .int (nI m), .int (nI (m * xtg s q)), .int (nI t)]) (st' := [.ref (28 + s), .ref (34 + s), .ref 1]) (h' := (xS b, xm_up J 40 s (nI (t * m)), L, xP b)) rfl (show ([xm_o (xP b 27 (nI s).toNatClampNeg), .ref (34 + s), .ref 1] : List Value) = [.ref (28 + s), .ref (34 + s), .ref 1] from ?_) rfl ?_
            · rw [xn_cl (by omega), xP_27 (by omega)]
              rfl
            refine xw_go xb_86 9 (f1 := (75, [.ref 24, .int (nI s), .int (nI m), .int (nI (m * xtg s q)), .int (nI t)], [xm_o (xP b 33 ((nI s) + 1).toNatClampNeg), .int ((nI t) * (nI m)), .ref (28 + s), .ref (34 + s), .ref 1])) (h1 := (xS b, xm_up J 40 s (nI (t * m)), L, xP b)) rfl ⟨rfl, (xn_ar' (n := s + 1) (N := 6) rfl (show nI s + 1 = _ from nI_1 s) (by omega) (by decide)), ⟨Nat.le_of_ble_eq_true rfl, Nat.le_of_ble_eq_true rfl⟩, trivial⟩ ?_
            refine xw_cong (l' := [.ref 24, .int (nI s), .int (nI m), .int (nI (m * xtg s q)), .int (nI t)]) (st' := [.ref (34 + (s + 1)), .int ((nI t) * (nI m)), .ref (28 + s), .ref (34 + s), .ref 1]) (h' := (xS b, xm_up J 40 s (nI (t * m)), L, xP b)) rfl (show ([xm_o (xP b 33 ((nI s) + 1).toNatClampNeg), .int ((nI t) * (nI m)), .ref (28 + s), .ref (34 + s), .ref 1] : List Value) = [.ref (34 + (s + 1)), .int ((nI t) * (nI m)), .ref (28 + s), .ref (34 + s), .ref 1] from ?_) rfl ?_
            · rw [nI_1, xn_cl (by omega), xP_33 (by omega)]
              rfl
            refine xw_cong (l' := [.ref 24, .int (nI s), .int (nI m), .int (nI (m * xtg s q)), .int (nI t)]) (st' := [.ref (34 + (s + 1)), .int (nI (t * m)), .ref (28 + s), .ref (34 + s), .ref 1]) (h' := (xS b, xm_up J 40 s (nI (t * m)), L, xP b)) rfl (show ([.ref (34 + (s + 1)), .int ((nI t) * (nI m)), .ref (28 + s), .ref (34 + s), .ref 1] : List Value) = [.ref (34 + (s + 1)), .int (nI (t * m)), .ref (28 + s), .ref (34 + s), .ref 1] from ?_) rfl ?_
            · rw [pk_mul]
            refine xw_call xb_86 rfl rfl rfl rfl rfl (Or.inr ⟨_, _, rfl, rfl⟩) (c_soak (I := (xm_up J 40 s (nI (t * m)))) (R := N 0) (C := N 1) (by rw [xm_up_o (by decide)]; exact hNJ.1.1) (by rw [xm_up_o (by decide)]; exact hNJ.1.2.1) (by omega) (by omega) (fr := 34 + s) (ta := 28 + s) (to := 34 + (s + 1)) (m := t * m) (xS_34 (by omega)) (xS_28 (by omega)) (xS_34 (by omega)) (by omega) (wv := fun j => xpw N m s q (95 + j)) (tv := xta N (2 ^ s) (N 5)) (fun j hj => by rw [xm_up_o (by omega), j3 _ (by omega) (by omega) (by omega) (by omega)]; exact hr j hj) (fun j hj => by rw [xm_up_o (by omega), j3 _ (by omega) (by omega) (by omega) (by omega)]; exact ha s (by omega) j hj) (fun j hj => by have := xpw_w (N := N) (m := m) (s := s) (q := q) hO h4 hm.2 (by omega) (show j < 64 by omega); show xpw N m s q (95 + j) < _; omega) (fun j hj => by have := xta_le hO (o := 2 ^ s) (wi := N 5) hj; omega) (by omega) rfl) ?_
            rintro _ _ ⟨rfl, rfl⟩
            refine xw_at (f' := (78, [.ref 24, .int (nI s), .int (nI m), .int (nI (m * xtg s q)), .int (nI t)], [])) (h' := (xS b, va_up (xm_up J 40 s (nI (t * m))) (34 + (s + 1)) (xfil (N 0 * N 1) (fun j => nI (min 9999 (xpw N m s q (95 + j) + t * m * xta N (2 ^ s) (N 5) j))) ((xm_up J 40 s (nI (t * m))) (34 + (s + 1)))), L, xP b)) rfl rfl ?_
            refine xw_go xb_86 10 (f1 := (89, [.ref 24, .int (nI s), .int (nI m), .int (nI (m * xtg s q)), .int (nI t)], [.int ((nI (m * xtg s q)) + ((nI t) * (nI m))), .int (nI m), .int ((nI s) + 1), .ref 24])) (h1 := (xS b, va_up (xm_up J 40 s (nI (t * m))) (34 + (s + 1)) (xfil (N 0 * N 1) (fun j => nI (min 9999 (xpw N m s q (95 + j) + t * m * xta N (2 ^ s) (N 5) j))) ((xm_up J 40 s (nI (t * m))) (34 + (s + 1)))), L, xP b)) rfl trivial ?_
            refine xw_call xb_86 rfl rfl rfl rfl rfl (Or.inr ⟨_, _, rfl, rfl⟩) (c_tryTurns hO h4 hm r (s + 1) (3 * q + t) d _ (by omega) (xPN_fr (by omega) hNJ fun a h9 => by rw [xm_vu_o (by omega), xm_up_o (by omega)]) (fun p hp j hj => by rw [xm_vu_o (by omega), xm_up_o (by omega), j3 _ (by omega) (by omega) (by omega) (by omega)]; exact ha p hp j hj) (fun j hj => by rw [show ∀ (f : Nat → Nat → Int32) (k : Nat) (g : Nat → Int32), va_up f k g k = g from fun f k g => by simp [va_up], xpw_we hO (by omega) hj]; simp only [xfil]; rw [if_pos hj]) (fun p hp => tr p hp) (xTB_fr (by rw [xm_vu_o (by omega), xm_up_o (by decide)]) (by rw [xm_vu_o (by omega), xm_up_o (by decide)]) j2) (by rw [nI_1]) rfl tgq) ?_
            rintro _ _ ⟨rfl, J3, rfl, k1, k2, k3, k4⟩
            refine xw_at (f' := (92, [.ref 24, .int (nI s), .int (nI m), .int (nI (m * xtg s q)), .int (nI t)], [])) (h' := (xS b, J3, L, xP b)) rfl rfl ?_
            refine xw_go xb_86 2 (f1 := (31, [.ref 24, .int (nI s), .int (nI m), .int (nI (m * xtg s q)), .int ((nI t) + 1)], [])) (h1 := (xS b, J3, L, xP b)) rfl trivial ?_
            refine xw_cong ?_ rfl rfl (ih _ ⟨J3, rfl, k1, fun a h1 h2 h5 h6 => ?_, fun k h1 h2 => ?_, fun p hp => ?_⟩)
            · rw [nI_1]
            · rw [k2 a h1 h2 h5 (by omega), xm_vu_o (by omega), xm_up_o (by omega)]
              exact j3 a h1 h2 h5 h6
            · rw [k3 k h1 h2, xm_vu_o (by omega), xm_up_o (by decide)]
              exact j4 k h1 h2
            · rw [k4 p (by omega), xm_vu_o (by omega), xm_up_ne (Or.inr (by omega))]
              exact j5 p hp
        · obtain ⟨J, rfl, j2, j3, j4, j5⟩ := hV
          refine xw_go xb_86 3 (f1 := (if 2 < (nI 3) then 98 else 37, [.ref 24, .int (nI s), .int (nI m), .int (nI (m * xtg s q)), .int (nI 3)], [])) (h1 := (xS b, J, L, xP b)) rfl trivial ?_
          refine xw_if (fun c_34 => ?_) (fun c_34 => ?_)
          · skip
            refine xw_ret xb_86 rfl rfl trivial ?_
            have e : (q + 1) * 3 ^ (r + 1) = (3 * q + 3) * 3 ^ r := by
              rw [Nat.pow_succ, Nat.mul_comm (3 ^ r) 3, ← Nat.mul_assoc, show (q + 1) * 3 = 3 * q + 3 by omega]
            rw [e]
            exact ⟨rfl, J, rfl, j2, j3, j4, j5⟩
          · skip
            exfalso
            simp (disch := omega) only [xl_2, nI_ltI] at c_34
            omega
        · have e : q * 3 ^ (r + 1) = (3 * q + 0) * 3 ^ r := by
            rw [Nat.pow_succ, Nat.mul_comm (3 ^ r) 3, ← Nat.mul_assoc, show q * 3 = 3 * q + 0 by omega]
          rw [e] at hB
          exact ⟨I, rfl, hB, fun a _ _ _ _ => rfl, fun k _ _ => rfl, fun p _ => rfl⟩
      · skip
        exfalso
        try simp only [xB_dec, Classical.not_not] at c_8 c_13
        try simp (disch := omega) only [xt_eq, xt_lt, xt_le, xkt_0, xkt_1, xkt_2, xkt_3, xkt_4, xkt_5, xkt_6, xkt_7, xkt_8, xkt_9, xkt_10, xkt_11, xkt_12, xkt_13, xkt_14, xkt_16, xkt_20, xkt_24, xkt_31, xkt_32, xkt_40, xkt_44, xkt_47, xkt_48, xkt_57, xkt_59, xkt_60, xkt_63, xkt_64, xkt_65, xkt_72, xkt_95, xkt_99, xkt_100, xkt_101, xkt_103, xkt_110, xkt_112, xkt_113, xkt_114, xkt_119, xkt_126, xkt_159, xkt_576, xkt_999, xkt_9999, xkt_65536, xkt_999999, xkt_m1, xkt_m2, xkt_m3, xkt_m4, xkt_m11, xkt_m12, xkt_m13, xkt_m14, xkt_m20, xjt_0, xjt_1, xjt_2, xjt_3, xjt_4, xjt_5, xjt_6, xjt_7, xjt_8, xjt_9, xjt_10, xjt_11, xjt_12, xjt_13, xjt_14, xjt_16, xjt_20, xjt_24, xjt_31, xjt_32, xjt_40, xjt_44, xjt_47, xjt_48, xjt_57, xjt_59, xjt_60, xjt_63, xjt_64, xjt_65, xjt_72, xjt_95, xjt_99, xjt_100, xjt_101, xjt_103, xjt_110, xjt_112, xjt_113, xjt_114, xjt_119, xjt_126, xjt_159, xjt_576, xjt_999, xjt_9999, xjt_65536, xjt_999999, xt64, xt_n, not_true_eq_false, not_false_eq_true, Classical.not_not] at c_8 c_13
        all_goals omega
set_option maxHeartbeats 4000000 in
theorem c_findTurns {d : Nat} {b : Bool} {I : Nat → Nat → Int32} {L : Nat → Nat → Int64} {N : Nat → Nat} (hN : xPN N 1 I) (hO : xOK N) {m : Nat} (h4 : N 4 ≤ 9999) (hm : 1 ≤ m ∧ m ≤ 20) {x1 : Int32} (e_x1 : x1 = nI m) : xm_Z (d + N 2 + 6) 85 [.ref 24, .int x1] (xS b, I, L, xP b) (fun rz hz => rz = none ∧ ∃ I', hz = (xS b, I', L, xP b) ∧ xFF I I' ∧ xTB N m (3 ^ N 2) I') := by
  subst e_x1
  have hb := hO.1
  have c64 : N 0 * N 1 ≤ 64 := xce_le hO
  show xm_Z ((d + N 2 + 5) + 1) _ _ _ _
  refine xw_S xb_85 (l := [.ref 24, .int (nI m), .float 0]) (Nat.le_of_ble_eq_true rfl) rfl ?_
  refine xw_go xb_85 2 (f1 := (2, [.ref 24, .int (nI m), .int 0], [])) (h1 := (xS b, I, L, xP b)) rfl trivial ?_
  refine xw_at (f' := (2, [.ref 24, .int (nI m), .int (nI 0)], [])) (h' := (xS b, I, L, xP b)) rfl rfl ?_
  refine xw_loopP (N 2) (fun i => (2, [.ref 24, .int (nI m), .int (nI i)], [])) (fun i h => ∃ J, h = (xS b, J, L, xP b) ∧ xFF I J ∧ ∀ p, p < i → ∀ j, j < N 0 * N 1 → J (28 + p) j = nI (xta N (2 ^ p) (N 5) j)) (fun i h hi hV ih => ?_) (fun h hV => ?_) 0 _ (Nat.zero_le _) ?_
  · obtain ⟨J, rfl, j1, j2⟩ := hV
    have hNJ := xFF_N j1 (by omega) hN
    have p32 : 2 ^ i < 32 := Nat.lt_of_lt_of_le (Nat.pow_lt_pow_right (a := 2) (by decide) hi) (xp32 hb.2.2.2.2.1)
    refine xw_go xb_85 4 (f1 := (10, [.ref 24, .int (nI m), .int (nI i)], [.int (J 1 5), .int (nI i)])) (h1 := (xS b, J, L, xP b)) rfl ⟨rfl, rfl, trivial⟩ ?_
    refine xw_cong (l' := [.ref 24, .int (nI m), .int (nI i)]) (st' := [.int (nI (N 2)), .int (nI i)]) (h' := (xS b, J, L, xP b)) rfl (show ([.int (J 1 5), .int (nI i)] : List Value) = [.int (nI (N 2)), .int (nI i)] from ?_) rfl ?_
    · rw [hNJ.1.2.2.1]
    refine xw_go xb_85 1 (f1 := (if (nI (N 2)) ≤ (nI i) then 60 else 13, [.ref 24, .int (nI m), .int (nI i)], [])) (h1 := (xS b, J, L, xP b)) rfl trivial ?_
    refine xw_if (fun c_10 => ?_) (fun c_10 => ?_)
    · skip
      exfalso
      try simp only [xB_dec, Classical.not_not] at c_10
      try simp (disch := omega) only [xt_eq, xt_lt, xt_le, xkt_0, xkt_1, xkt_2, xkt_3, xkt_4, xkt_5, xkt_6, xkt_7, xkt_8, xkt_9, xkt_10, xkt_11, xkt_12, xkt_13, xkt_14, xkt_16, xkt_20, xkt_24, xkt_31, xkt_32, xkt_40, xkt_44, xkt_47, xkt_48, xkt_57, xkt_59, xkt_60, xkt_63, xkt_64, xkt_65, xkt_72, xkt_95, xkt_99, xkt_100, xkt_101, xkt_103, xkt_110, xkt_112, xkt_113, xkt_114, xkt_119, xkt_126, xkt_159, xkt_576, xkt_999, xkt_9999, xkt_65536, xkt_999999, xkt_m1, xkt_m2, xkt_m3, xkt_m4, xkt_m11, xkt_m12, xkt_m13, xkt_m14, xkt_m20, xjt_0, xjt_1, xjt_2, xjt_3, xjt_4, xjt_5, xjt_6, xjt_7, xjt_8, xjt_9, xjt_10, xjt_11, xjt_12, xjt_13, xjt_14, xjt_16, xjt_20, xjt_24, xjt_31, xjt_32, xjt_40, xjt_44, xjt_47, xjt_48, xjt_57, xjt_59, xjt_60, xjt_63, xjt_64, xjt_65, xjt_72, xjt_95, xjt_99, xjt_100, xjt_101, xjt_103, xjt_110, xjt_112, xjt_113, xjt_114, xjt_119, xjt_126, xjt_159, xjt_576, xjt_999, xjt_9999, xjt_65536, xjt_999999, xt64, xt_n, not_true_eq_false, not_false_eq_true, Classical.not_not] at c_10
      all_goals omega
    · skip
      refine xw_go xb_85 10 (f1 := (31, [.ref 24, .int (nI m), .int (nI i)], [.int (J 1 7), .int (1 <<< ((nI i) &&& 31)), .ref 1, .ref 20])) (h1 := (xS b, J, L, xP b)) rfl ⟨rfl, rfl, rfl, rfl, trivial⟩ ?_
      refine xw_call xb_85 rfl rfl rfl rfl rfl (Or.inr ⟨_, _, rfl, rfl⟩) (c_run (I := J) hNJ hO (o := 2 ^ i) (wi := N 5) p32 (by omega) (xsh i (by omega)) hNJ.1.2.2.2.2.2.1) ?_
      rintro _ _ ⟨rfl, F, X, T, hF, hT, rfl⟩
      refine xw_at (f' := (34, [.ref 24, .int (nI m), .int (nI i)], [])) (h' := (xS b, xm_up (va_up (va_up (va_up J 21 F) 23 X) 22 T) 20 3 (nI (xlo N (2 ^ i) (N 5))), L, xP b)) rfl rfl ?_
      refine xw_go xb_85 8 (f1 := (48, [.ref 24, .int (nI m), .int (nI i)], [xm_o (xP b 27 (nI i).toNatClampNeg), .int 0, .ref 22])) (h1 := (xS b, xm_up (va_up (va_up (va_up J 21 F) 23 X) 22 T) 20 3 (nI (xlo N (2 ^ i) (N 5))), L, xP b)) rfl ⟨rfl, rfl, rfl, (xn_ar (n := i) (N := 5) rfl (by omega) (by decide)), ⟨Nat.le_of_ble_eq_true rfl, Nat.le_of_ble_eq_true rfl⟩, trivial⟩ ?_
      refine xw_cong (l' := [.ref 24, .int (nI m), .int (nI i)]) (st' := [.ref (28 + i), .int 0, .ref 22]) (h' := (xS b, xm_up (va_up (va_up (va_up J 21 F) 23 X) 22 T) 20 3 (nI (xlo N (2 ^ i) (N 5))), L, xP b)) rfl (show ([xm_o (xP b 27 (nI i).toNatClampNeg), .int 0, .ref 22] : List Value) = [.ref (28 + i), .int 0, .ref 22] from ?_) rfl ?_
      · rw [xn_cl (by omega), xP_27 (by omega)]
        rfl
      refine xw_go xb_85 2 (f1 := (51, [.ref 24, .int (nI m), .int (nI i)], [.int 64, .int 0, .ref (28 + i), .int 0, .ref 22])) (h1 := (xS b, xm_up (va_up (va_up (va_up J 21 F) 23 X) 22 T) 20 3 (nI (xlo N (2 ^ i) (N 5))), L, xP b)) rfl trivial ?_
      refine xw_cpI xb_85 rfl rfl rfl ⟨64, 64, rfl, xS_28 (by omega), by decide, by decide, by decide, by decide, by decide⟩ ?_
      refine xw_at (f' := (54, [.ref 24, .int (nI m), .int (nI i)], [])) (h' := (xS b, va_up (xm_up (va_up (va_up (va_up J 21 F) 23 X) 22 T) 20 3 (nI (xlo N (2 ^ i) (N 5)))) (28 + i) (va_cpy ((xm_up (va_up (va_up (va_up J 21 F) 23 X) 22 T) 20 3 (nI (xlo N (2 ^ i) (N 5)))) 22) ((xm_up (va_up (va_up (va_up J 21 F) 23 X) 22 T) 20 3 (nI (xlo N (2 ^ i) (N 5)))) (28 + i)) (0 : Int32).toNatClampNeg (0 : Int32).toNatClampNeg (64 : Int32).toNatClampNeg), L, xP b)) rfl rfl ?_
      refine xw_go xb_85 2 (f1 := (2, [.ref 24, .int (nI m), .int ((nI i) + 1)], [])) (h1 := (xS b, va_up (xm_up (va_up (va_up (va_up J 21 F) 23 X) 22 T) 20 3 (nI (xlo N (2 ^ i) (N 5)))) (28 + i) (va_cpy ((xm_up (va_up (va_up (va_up J 21 F) 23 X) 22 T) 20 3 (nI (xlo N (2 ^ i) (N 5)))) 22) ((xm_up (va_up (va_up (va_up J 21 F) 23 X) 22 T) 20 3 (nI (xlo N (2 ^ i) (N 5)))) (28 + i)) (0 : Int32).toNatClampNeg (0 : Int32).toNatClampNeg (64 : Int32).toNatClampNeg), L, xP b)) rfl trivial ?_
      refine xw_cong ?_ rfl rfl (ih _ ⟨_, rfl, xFF_v (xFF_u (xFF_v (xFF_v (xFF_v j1 (by decide)) (by decide)) (by decide)) (by decide)) (by omega), fun p hp j hj => ?_⟩)
      · rw [nI_1]
      · by_cases h : p = i
        · subst h
          rw [show ∀ (f : Nat → Nat → Int32) (k : Nat) (g : Nat → Int32), va_up f k g k = g from fun f k g => by simp [va_up], ← hT j hj]
          show (if 0 ≤ j ∧ j < 0 + 64 then T (0 + (j - 0)) else _) = _
          rw [if_pos (by omega), Nat.zero_add, Nat.sub_zero]
        · rw [xm_vu_o (by omega), xm_up_o (by omega), xm_vu_o (by omega), xm_vu_o (by omega), xm_vu_o (by omega)]
          exact j2 p (by omega) j hj
  · obtain ⟨J, rfl, j1, j2⟩ := hV
    have hNJ := xFF_N j1 (by omega) hN
    refine xw_go xb_85 4 (f1 := (10, [.ref 24, .int (nI m), .int (nI (N 2))], [.int (J 1 5), .int (nI (N 2))])) (h1 := (xS b, J, L, xP b)) rfl ⟨rfl, rfl, trivial⟩ ?_
    refine xw_cong (l' := [.ref 24, .int (nI m), .int (nI (N 2))]) (st' := [.int (nI (N 2)), .int (nI (N 2))]) (h' := (xS b, J, L, xP b)) rfl (show ([.int (J 1 5), .int (nI (N 2))] : List Value) = [.int (nI (N 2)), .int (nI (N 2))] from ?_) rfl ?_
    · rw [hNJ.1.2.2.1]
    refine xw_go xb_85 1 (f1 := (if (nI (N 2)) ≤ (nI (N 2)) then 60 else 13, [.ref 24, .int (nI m), .int (nI (N 2))], [])) (h1 := (xS b, J, L, xP b)) rfl trivial ?_
    refine xw_if (fun c_10 => ?_) (fun c_10 => ?_)
    · skip
      refine xw_go xb_85 8 (f1 := (74, [.ref 24, .int (nI m), .int (nI (N 2))], [xm_o (xP b 33 (0 : Int32).toNatClampNeg), .int 0, .ref 3])) (h1 := (xS b, J, L, xP b)) rfl ⟨rfl, rfl, rfl, (xn_ar (n := 0) (N := 6) rfl (by decide) (by decide)), ⟨Nat.le_of_ble_eq_true rfl, Nat.le_of_ble_eq_true rfl⟩, trivial⟩ ?_
      refine xw_cong (l' := [.ref 24, .int (nI m), .int (nI (N 2))]) (st' := [.ref 34, .int 0, .ref 3]) (h' := (xS b, J, L, xP b)) rfl (show ([xm_o (xP b 33 (0 : Int32).toNatClampNeg), .int 0, .ref 3] : List Value) = [.ref 34, .int 0, .ref 3] from ?_) rfl ?_
      · rfl
      refine xw_go xb_85 2 (f1 := (77, [.ref 24, .int (nI m), .int (nI (N 2))], [.int 64, .int 0, .ref 34, .int 0, .ref 3])) (h1 := (xS b, J, L, xP b)) rfl trivial ?_
      refine xw_cpI xb_85 rfl rfl rfl ⟨64, 64, rfl, rfl, by decide, by decide, by decide, by decide, by decide⟩ ?_
      refine xw_at (f' := (80, [.ref 24, .int (nI m), .int (nI (N 2))], [])) (h' := (xS b, va_up J 34 (va_cpy (J 3) (J 34) (0 : Int32).toNatClampNeg (0 : Int32).toNatClampNeg (64 : Int32).toNatClampNeg), L, xP b)) rfl rfl ?_
      refine xw_go xb_85 10 (f1 := (95, [.ref 24, .int (nI m), .int (nI (N 2))], [.int 0, .int (nI m), .int 0, .ref 24])) (h1 := (xS b, xm_up (xm_up (va_up J 34 (va_cpy (J 3) (J 34) (0 : Int32).toNatClampNeg (0 : Int32).toNatClampNeg (64 : Int32).toNatClampNeg)) 24 8 65) 24 9 0, L, xP b)) rfl ⟨rfl, rfl, trivial⟩ ?_
      refine xw_call xb_85 rfl rfl rfl rfl rfl (Or.inr ⟨_, _, rfl, rfl⟩) (c_tryTurns hO h4 hm (N 2) 0 0 d _ (Nat.zero_add _) (xPN_fr (by omega) hNJ fun a h9 => by rw [xm_up_o (by omega), xm_up_o (by omega), xm_vu_o (by omega)]) (fun p hp j hj => by rw [xm_up_o (by omega), xm_up_o (by omega), xm_vu_o (by omega)]; exact j2 p hp j hj) (fun j hj => by rw [xm_up_o (by decide), xm_up_o (by decide)]; show (if 0 ≤ j ∧ j < 0 + 64 then J 3 (0 + (j - 0)) else _) = _; rw [if_pos (by omega), Nat.zero_add, Nat.sub_zero]; exact hNJ.2.2.1 j (by omega)) (fun p hp => absurd hp (Nat.not_lt_zero p)) (by rw [Nat.zero_mul]; exact ⟨xl_65, xl_0, fun h => absurd h (Nat.lt_irrefl 0)⟩) xl_0 rfl (by show (0 : Int32) = nI (m * 0); rw [Nat.mul_zero]; exact xl_0)) ?_
      rintro _ _ ⟨rfl, J3, rfl, k1, k2, k3, k4⟩
      refine xw_at (f' := (98, [.ref 24, .int (nI m), .int (nI (N 2))], [])) (h' := (xS b, J3, L, xP b)) rfl rfl ?_
      refine xw_ret xb_85 rfl rfl trivial ?_
      rw [Nat.zero_add, Nat.one_mul] at k1
      refine ⟨rfl, J3, rfl, xFF_t j1 (fun a h9 => ?_), k1⟩
      rw [k2 a (by omega) (by omega) (by omega) (by omega), xm_up_o (by omega), xm_up_o (by omega), xm_vu_o (by omega)]
    · skip
      exfalso
      try simp only [xB_dec, Classical.not_not] at c_10
      try simp (disch := omega) only [xt_eq, xt_lt, xt_le, xkt_0, xkt_1, xkt_2, xkt_3, xkt_4, xkt_5, xkt_6, xkt_7, xkt_8, xkt_9, xkt_10, xkt_11, xkt_12, xkt_13, xkt_14, xkt_16, xkt_20, xkt_24, xkt_31, xkt_32, xkt_40, xkt_44, xkt_47, xkt_48, xkt_57, xkt_59, xkt_60, xkt_63, xkt_64, xkt_65, xkt_72, xkt_95, xkt_99, xkt_100, xkt_101, xkt_103, xkt_110, xkt_112, xkt_113, xkt_114, xkt_119, xkt_126, xkt_159, xkt_576, xkt_999, xkt_9999, xkt_65536, xkt_999999, xkt_m1, xkt_m2, xkt_m3, xkt_m4, xkt_m11, xkt_m12, xkt_m13, xkt_m14, xkt_m20, xjt_0, xjt_1, xjt_2, xjt_3, xjt_4, xjt_5, xjt_6, xjt_7, xjt_8, xjt_9, xjt_10, xjt_11, xjt_12, xjt_13, xjt_14, xjt_16, xjt_20, xjt_24, xjt_31, xjt_32, xjt_40, xjt_44, xjt_47, xjt_48, xjt_57, xjt_59, xjt_60, xjt_63, xjt_64, xjt_65, xjt_72, xjt_95, xjt_99, xjt_100, xjt_101, xjt_103, xjt_110, xjt_112, xjt_113, xjt_114, xjt_119, xjt_126, xjt_159, xjt_576, xjt_999, xjt_9999, xjt_65536, xjt_999999, xt64, xt_n, not_true_eq_false, not_false_eq_true, Classical.not_not] at c_10
      all_goals omega
  · exact ⟨I, rfl, xFF_r I, fun p hp => absurd hp (Nat.not_lt_zero p)⟩
