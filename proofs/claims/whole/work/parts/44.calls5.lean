/-! ===== calls: ahead, wrongs, enough ===== -/
/-- what a foresight leaves as it was -/
def xFF (I I' : Nat → Nat → Int32) : Prop := ∀ a, a < 20 ∨ 42 ≤ a → I' a = I a
theorem xFF_r (I : Nat → Nat → Int32) : xFF I I := fun _ _ => rfl
theorem xFF_t {I J K : Nat → Nat → Int32} (h1 : xFF I J) (h2 : xFF J K) : xFF I K := fun a ha => by rw [h2 a ha, h1 a ha]
theorem xFF_u {I J : Nat → Nat → Int32} (h : xFF I J) {a k : Nat} {v : Int32} (ha : 20 ≤ a ∧ a < 42) : xFF I (xm_up J a k v) := fun x hx => by rw [xm_up_o (by omega)]; exact h x hx
theorem xFF_v {I J : Nat → Nat → Int32} (h : xFF I J) {a : Nat} {f : Nat → Int32} (ha : 20 ≤ a ∧ a < 42) : xFF I (va_up J a f) := fun x hx => by rw [xm_vu_o (by omega)]; exact h x hx
theorem xFF_P {I J : Nat → Nat → Int32} (h : xFF I J) : xPF I J := fun a ha => h a (by omega)
theorem xFF_L {N : Nat → Nat} {u : Nat} {U : Nat → Nat → Nat} {I J : Nat → Nat → Int32} (h : xFF I J) (h5 : N 2 ≤ 5) (hP : xPL N u U 1 I) : xPL N u U 1 J := xPL_fr h5 hP fun a h1 h2 => h a (by omega)
theorem xFF_N {N : Nat → Nat} {I J : Nat → Nat → Int32} (h : xFF I J) (h5 : N 2 ≤ 5) (hN : xPN N 1 I) : xPN N 1 J := xPN_fr h5 hN fun a ha => h a (by omega)
theorem xgoN_we {N fv : Nat → Nat} {n c : Nat} (hc : c < N 0 * N 1) : xgoN N fv n (95 + c) = min 9999 (N (95 + c) + n * xtk fv (xso N) (N 1) c) := by
  unfold xgoN
  have : c < xce N := hc
  rw [if_pos (by omega), show 95 + c - 95 = c by omega]
theorem xwc_go {N fv : Nat → Nat} {n : Nat} (hO : xOK N) : xwc (xgoN N fv n) = xcnt (fun c => xs_wrong (N (31 + c)) (xgoN N fv n (95 + c)) (N 7) (N 8)) (N 0 * N 1) := by
  have c64 : N 0 * N 1 ≤ 64 := xce_le hO
  unfold xwc
  rw [xgoN_lo N fv n (k := 0) (by decide) (by decide) (by decide), xgoN_lo N fv n (k := 1) (by decide) (by decide) (by decide)]
  refine xcnt_congr fun c hc => ?_
  rw [xgoN_lo N fv n (k := 7) (by decide) (by decide) (by decide), xgoN_lo N fv n (k := 8) (by decide) (by decide) (by decide), xgoN_lo N fv n (k := 31 + c) (by omega) (by omega) (by omega)]
theorem xdc_go {N fv : Nat → Nat} {n : Nat} (hO : xOK N) : xdc (xgoN N fv n) = xcnt (fun c => xs_dry (N (31 + c)) (xgoN N fv n (95 + c)) (N 7)) (N 0 * N 1) := by
  have c64 : N 0 * N 1 ≤ 64 := xce_le hO
  unfold xdc
  rw [xgoN_lo N fv n (k := 0) (by decide) (by decide) (by decide), xgoN_lo N fv n (k := 1) (by decide) (by decide) (by decide)]
  refine xcnt_congr fun c hc => ?_
  rw [xgoN_lo N fv n (k := 7) (by decide) (by decide) (by decide), xgoN_lo N fv n (k := 31 + c) (by omega) (by omega) (by omega)]
theorem xgoN_w2 {N fv : Nat → Nat} {n c : Nat} (hc : c < N 0 * N 1) : xgoN N fv n (95 + c) < 2 ^ 31 := by
  rw [xgoN_we hc]
  omega
theorem xwc_le {N : Nat → Nat} (hO : xOK N) : xwc N ≤ 64 := Nat.le_trans (xcnt_le _ _) (xce_le hO)
theorem xdc_le {N : Nat → Nat} (hO : xOK N) : xdc N ≤ 64 := Nat.le_trans (xcnt_le _ _) (xce_le hO)
set_option maxHeartbeats 4000000 in
theorem c_wetBySet {d : Nat} {b : Bool} {I : Nat → Nat → Int32} {L : Nat → Nat → Int64} {N : Nat → Nat} (hN : xPN N 1 I) (hO : xOK N) {o n : Nat} (bo : o < 32) (bn : n < 1000) {x1 : Int32} (e_x1 : x1 = nI o) {x2 : Int32} (e_x2 : x2 = nI n) : xm_Z (d + 5) 73 [.ref 24, .int x1, .int x2] (xS b, I, L, xP b) (fun rz hz => rz = some (.ref 25) ∧ ∃ I', hz = (xS b, I', L, xP b) ∧ xFF I I' ∧ (∀ a, a ≠ 20 → a ≠ 21 → a ≠ 22 → a ≠ 23 → a ≠ 25 → I' a = I a) ∧ (∀ k, k ≠ 3 → I' 20 k = I 20 k) ∧ ∀ c, c < N 0 * N 1 → I' 25 c = nI (xgoN N (xfa N o (N 5)) n (95 + c))) := by
  subst e_x1
  subst e_x2
  have hN9_ := hN
  have hb := hO.1
  have c64 : N 0 * N 1 ≤ 64 := xce_le hO
  have c4 : 4 ≤ N 0 * N 1 := xce_ge hO
  obtain ⟨⟨hN0, hN1, hN2, hN3, hN4, hN5, hN6, hN7, hN8, hN9, hN10⟩, hNs, hNw, hNp⟩ := hN
  refine xw_S xb_73 (l := [.ref 24, .int (nI o), .int (nI n)]) (Nat.le_of_ble_eq_true rfl) rfl ?_
  refine xw_go xb_73 8 (f1 := (16, [.ref 24, .int (nI o), .int (nI n)], [.int (I 1 7), .int (nI o), .ref 1, .ref 20])) (h1 := (xS b, I, L, xP b)) rfl ⟨rfl, rfl, rfl, rfl, trivial⟩ ?_
  refine xw_call xb_73 rfl rfl rfl rfl rfl (Or.inr ⟨_, _, rfl, rfl⟩) (c_run (I := I) ‹xPN N 1 I› hO (o := o) (wi := N 5) bo (by omega) rfl hN5) ?_
  rintro _ _ ⟨rfl, F, X, T, hF, hT, rfl⟩
  refine xw_at (f' := (19, [.ref 24, .int (nI o), .int (nI n)], [])) (h' := (xS b, xm_up (va_up (va_up (va_up I 21 F) 23 X) 22 T) 20 3 (nI (xlo N (o) (N 5))), L, xP b)) rfl rfl ?_
  refine xw_go xb_73 11 (f1 := (42, [.ref 24, .int (nI o), .int (nI n)], [.ref 25, .int (nI n), .ref 22, .ref 3, .ref 1])) (h1 := (xS b, xm_up (va_up (va_up (va_up I 21 F) 23 X) 22 T) 20 3 (nI (xlo N (o) (N 5))), L, xP b)) rfl ⟨rfl, rfl, rfl, rfl, rfl, rfl, trivial⟩ ?_
  refine xw_call xb_73 rfl rfl rfl rfl rfl (Or.inr ⟨_, _, rfl, rfl⟩) (c_soak (I := (xm_up (va_up (va_up (va_up I 21 F) 23 X) 22 T) 20 3 (nI (xlo N (o) (N 5))))) (R := N 0) (C := N 1) hN0 hN1 (by omega) (by omega) (fr := 3) (ta := 22) (to := 25) (m := n) rfl rfl rfl (by decide) (wv := fun c => N (95 + c)) (tv := xta N (o) (N 5)) (fun c hc => hNw c (by omega)) (fun c hc => hT c hc) (fun c hc => by have := hO.2.2.1 c (by omega); show N (95 + c) < _; omega) (fun c hc => by have := xta_le hO (o := o) (wi := N 5) hc; omega) (by omega) rfl) ?_
  rintro _ _ ⟨rfl, rfl⟩
  refine xw_at (f' := (45, [.ref 24, .int (nI o), .int (nI n)], [])) (h' := (xS b, va_up (xm_up (va_up (va_up (va_up I 21 F) 23 X) 22 T) 20 3 (nI (xlo N (o) (N 5)))) 25 (xfil (N 0 * N 1) (fun c => nI (min 9999 (N (95 + c) + n * xta N (o) (N 5) c))) ((xm_up (va_up (va_up (va_up I 21 F) 23 X) 22 T) 20 3 (nI (xlo N (o) (N 5)))) 25)), L, xP b)) rfl rfl ?_
  refine xw_go xb_73 2 (f1 := (49, [.ref 24, .int (nI o), .int (nI n)], [.ref 25])) (h1 := (xS b, va_up (xm_up (va_up (va_up (va_up I 21 F) 23 X) 22 T) 20 3 (nI (xlo N (o) (N 5)))) 25 (xfil (N 0 * N 1) (fun c => nI (min 9999 (N (95 + c) + n * xta N (o) (N 5) c))) ((xm_up (va_up (va_up (va_up I 21 F) 23 X) 22 T) 20 3 (nI (xlo N (o) (N 5)))) 25)), L, xP b)) rfl ⟨rfl, trivial⟩ ?_
  refine xw_ret xb_73 rfl rfl trivial ?_
  refine ⟨rfl, _, rfl, xFF_v (xFF_u (xFF_v (xFF_v (xFF_v (xFF_r I) (by decide)) (by decide)) (by decide)) (by decide)) (by decide), fun a h20 h21 h22 h23 h25 => ?_, fun k hk => ?_, fun c hc => ?_⟩
  · rw [xm_vu_o h25, xm_up_o h20, xm_vu_o h22, xm_vu_o h23, xm_vu_o h21]
  · rw [xm_vu_o (by decide), xm_up_ne (Or.inr hk), xm_vu_o (by decide), xm_vu_o (by decide), xm_vu_o (by decide)]
  · simp only [va_up, if_true, xfil]
    rw [if_pos hc, xgoN_we hc]
    rfl

theorem c_ahead0 {d : Nat} {b : Bool} {I : Nat → Nat → Int32} {L : Nat → Nat → Int64} {N : Nat → Nat} {u : Nat} {U : Nat → Nat → Nat} (hP : xPL N u U 1 I) (hK : xUK N u U) {x y : Int32} (hx : ¬ (0 ≤ x.toInt ∧ x.toInt < ((N 0 * N 1 : Nat) : Int) ∧ 0 ≤ y.toInt ∧ y.toInt ≤ 99)) : xm_Z (d + 6) 72 [.ref 0, .int x, .int y] (xS b, I, L, xP b) (fun rz hz => xQC b I L (-1) N u U rz hz) := by
  have hO := hK.1
  have hb := hK.1.1
  have c64 : N 0 * N 1 ≤ 64 := xce_le hO
  have c4 : 4 ≤ N 0 * N 1 := xce_ge hO
  obtain ⟨⟨hN0, hN1, hN2, hN3, hN4, hN5, hN6, hN7, hN8, hN9, hN10⟩, hNs, hNw, hNp⟩ := hP.1
  refine xw_S xb_72 (l := [.ref 0, .int x, .int y]) (Nat.le_of_ble_eq_true rfl) rfl ?_
  refine xw_go xb_72 3 (f1 := (5, [.ref 0, .int x, .int y], [.int x, .ref 1])) (h1 := (xS b, I, L, xP b)) rfl ⟨rfl, trivial⟩ ?_
  refine xw_call xb_72 rfl rfl rfl rfl rfl (Or.inr ⟨_, _, rfl, rfl⟩) (c_hasCell (I := I) hN0 hN1 (by omega) (by omega) (by omega)) ?_
  rintro _ _ ⟨rfl, rfl⟩
  refine xw_at (f' := (8, [.ref 0, .int x, .int y], [.int (nI (xB (decide (0 ≤ x.toInt ∧ x.toInt < ((N 0 * N 1 : Nat) : Int)))))])) (h' := (xS b, I, L, xP b)) rfl rfl ?_
  refine xw_go xb_72 1 (f1 := (if (nI (xB (decide (0 ≤ x.toInt ∧ x.toInt < ((N 0 * N 1 : Nat) : Int))))) = 0 then 21 else 11, [.ref 0, .int x, .int y], [])) (h1 := (xS b, I, L, xP b)) rfl trivial ?_
  refine xw_if (fun c_8 => ?_) (fun c_8 => ?_)
  · skip
    refine xw_go xb_72 1 (f1 := (22, [.ref 0, .int x, .int y], [.int (-1)])) (h1 := (xS b, I, L, xP b)) rfl trivial ?_
    refine xw_ret xb_72 rfl rfl trivial ?_
    exact xQC_same hP
  · skip
    refine xw_go xb_72 3 (f1 := (15, [.ref 0, .int x, .int y], [.int 99, .int 0, .int y])) (h1 := (xS b, I, L, xP b)) rfl trivial ?_
    refine xw_call xb_72 rfl rfl rfl rfl rfl (Or.inl rfl) c_within ?_
    rintro _ _ ⟨rfl, rfl⟩
    refine xw_at (f' := (18, [.ref 0, .int x, .int y], [.int (nI (xB (decide ((0 : Int32).toInt ≤ y.toInt ∧ y.toInt ≤ (99 : Int32).toInt))))])) (h' := (xS b, I, L, xP b)) rfl rfl ?_
    refine xw_go xb_72 1 (f1 := (if ¬ (nI (xB (decide ((0 : Int32).toInt ≤ y.toInt ∧ y.toInt ≤ (99 : Int32).toInt)))) = 0 then 23 else 21, [.ref 0, .int x, .int y], [])) (h1 := (xS b, I, L, xP b)) rfl trivial ?_
    refine xw_if (fun c_18 => ?_) (fun c_18 => ?_)
    · skip
      exfalso
      try simp only [xB_dec, Classical.not_not] at c_8 c_18
      try simp (disch := omega) only [xt_eq, xt_lt, xt_le, xkt_0, xkt_1, xkt_2, xkt_3, xkt_4, xkt_5, xkt_6, xkt_7, xkt_8, xkt_9, xkt_10, xkt_11, xkt_12, xkt_13, xkt_14, xkt_16, xkt_20, xkt_24, xkt_31, xkt_32, xkt_40, xkt_44, xkt_47, xkt_48, xkt_57, xkt_59, xkt_60, xkt_63, xkt_64, xkt_65, xkt_72, xkt_95, xkt_99, xkt_100, xkt_101, xkt_103, xkt_110, xkt_112, xkt_113, xkt_114, xkt_119, xkt_126, xkt_159, xkt_576, xkt_999, xkt_9999, xkt_65536, xkt_999999, xkt_m1, xkt_m2, xkt_m3, xkt_m4, xkt_m11, xkt_m12, xkt_m13, xkt_m14, xkt_m20, xjt_0, xjt_1, xjt_2, xjt_3, xjt_4, xjt_5, xjt_6, xjt_7, xjt_8, xjt_9, xjt_10, xjt_11, xjt_12, xjt_13, xjt_14, xjt_16, xjt_20, xjt_24, xjt_31, xjt_32, xjt_40, xjt_44, xjt_47, xjt_48, xjt_57, xjt_59, xjt_60, xjt_63, xjt_64, xjt_65, xjt_72, xjt_95, xjt_99, xjt_100, xjt_101, xjt_103, xjt_110, xjt_112, xjt_113, xjt_114, xjt_119, xjt_126, xjt_159, xjt_576, xjt_999, xjt_9999, xjt_65536, xjt_999999, xt64, xt_n, not_true_eq_false, not_false_eq_true, Classical.not_not] at c_8 c_18
      all_goals omega
    · skip
      refine xw_go xb_72 1 (f1 := (22, [.ref 0, .int x, .int y], [.int (-1)])) (h1 := (xS b, I, L, xP b)) rfl trivial ?_
      refine xw_ret xb_72 rfl rfl trivial ?_
      exact xQC_same hP

theorem c_ahead1 {d : Nat} {b : Bool} {I : Nat → Nat → Int32} {L : Nat → Nat → Int64} {N : Nat → Nat} {u : Nat} {U : Nat → Nat → Nat} (hP : xPL N u U 1 I) (hK : xUK N u U) {c n : Nat} (hc : c < N 0 * N 1) (hn : n ≤ 99) {x : Int32} (e_x : x = nI c) {y : Int32} (e_y : y = nI n) : xm_Z (d + 6) 72 [.ref 0, .int x, .int y] (xS b, I, L, xP b) (fun rz hz => xQC b I L (nI (xgoN N (xfa N (N 3) (N 5)) n (95 + c))) N u U rz hz) := by
  subst e_x
  subst e_y
  have hO := hK.1
  have hb := hK.1.1
  have c64 : N 0 * N 1 ≤ 64 := xce_le hO
  have c4 : 4 ≤ N 0 * N 1 := xce_ge hO
  obtain ⟨⟨hN0, hN1, hN2, hN3, hN4, hN5, hN6, hN7, hN8, hN9, hN10⟩, hNs, hNw, hNp⟩ := hP.1
  refine xw_S xb_72 (l := [.ref 0, .int (nI c), .int (nI n)]) (Nat.le_of_ble_eq_true rfl) rfl ?_
  refine xw_go xb_72 3 (f1 := (5, [.ref 0, .int (nI c), .int (nI n)], [.int (nI c), .ref 1])) (h1 := (xS b, I, L, xP b)) rfl ⟨rfl, trivial⟩ ?_
  refine xw_call xb_72 rfl rfl rfl rfl rfl (Or.inr ⟨_, _, rfl, rfl⟩) (c_hasCell (I := I) hN0 hN1 (by omega) (by omega) (by omega)) ?_
  rintro _ _ ⟨rfl, rfl⟩
  refine xw_at (f' := (8, [.ref 0, .int (nI c), .int (nI n)], [.int (nI (xB (decide (0 ≤ (nI c).toInt ∧ (nI c).toInt < ((N 0 * N 1 : Nat) : Int)))))])) (h' := (xS b, I, L, xP b)) rfl rfl ?_
  refine xw_go xb_72 1 (f1 := (if (nI (xB (decide (0 ≤ (nI c).toInt ∧ (nI c).toInt < ((N 0 * N 1 : Nat) : Int))))) = 0 then 21 else 11, [.ref 0, .int (nI c), .int (nI n)], [])) (h1 := (xS b, I, L, xP b)) rfl trivial ?_
  refine xw_if (fun c_8 => ?_) (fun c_8 => ?_)
  · skip
    exfalso
    try simp only [xB_dec, Classical.not_not] at c_8
    try simp (disch := omega) only [xt_eq, xt_lt, xt_le, xkt_0, xkt_1, xkt_2, xkt_3, xkt_4, xkt_5, xkt_6, xkt_7, xkt_8, xkt_9, xkt_10, xkt_11, xkt_12, xkt_13, xkt_14, xkt_16, xkt_20, xkt_24, xkt_31, xkt_32, xkt_40, xkt_44, xkt_47, xkt_48, xkt_57, xkt_59, xkt_60, xkt_63, xkt_64, xkt_65, xkt_72, xkt_95, xkt_99, xkt_100, xkt_101, xkt_103, xkt_110, xkt_112, xkt_113, xkt_114, xkt_119, xkt_126, xkt_159, xkt_576, xkt_999, xkt_9999, xkt_65536, xkt_999999, xkt_m1, xkt_m2, xkt_m3, xkt_m4, xkt_m11, xkt_m12, xkt_m13, xkt_m14, xkt_m20, xjt_0, xjt_1, xjt_2, xjt_3, xjt_4, xjt_5, xjt_6, xjt_7, xjt_8, xjt_9, xjt_10, xjt_11, xjt_12, xjt_13, xjt_14, xjt_16, xjt_20, xjt_24, xjt_31, xjt_32, xjt_40, xjt_44, xjt_47, xjt_48, xjt_57, xjt_59, xjt_60, xjt_63, xjt_64, xjt_65, xjt_72, xjt_95, xjt_99, xjt_100, xjt_101, xjt_103, xjt_110, xjt_112, xjt_113, xjt_114, xjt_119, xjt_126, xjt_159, xjt_576, xjt_999, xjt_9999, xjt_65536, xjt_999999, xt64, xt_n, not_true_eq_false, not_false_eq_true, Classical.not_not] at c_8
    all_goals omega
  · skip
    refine xw_go xb_72 3 (f1 := (15, [.ref 0, .int (nI c), .int (nI n)], [.int 99, .int 0, .int (nI n)])) (h1 := (xS b, I, L, xP b)) rfl trivial ?_
    refine xw_call xb_72 rfl rfl rfl rfl rfl (Or.inl rfl) c_within ?_
    rintro _ _ ⟨rfl, rfl⟩
    refine xw_at (f' := (18, [.ref 0, .int (nI c), .int (nI n)], [.int (nI (xB (decide ((0 : Int32).toInt ≤ (nI n).toInt ∧ (nI n).toInt ≤ (99 : Int32).toInt))))])) (h' := (xS b, I, L, xP b)) rfl rfl ?_
    refine xw_go xb_72 1 (f1 := (if ¬ (nI (xB (decide ((0 : Int32).toInt ≤ (nI n).toInt ∧ (nI n).toInt ≤ (99 : Int32).toInt)))) = 0 then 23 else 21, [.ref 0, .int (nI c), .int (nI n)], [])) (h1 := (xS b, I, L, xP b)) rfl trivial ?_
    refine xw_if (fun c_18 => ?_) (fun c_18 => ?_)
    · skip
      refine xw_go xb_72 6 (f1 := (35, [.ref 0, .int (nI c), .int (nI n)], [.int (nI n), .int (I 1 6), .ref 24])) (h1 := (xS b, I, L, xP b)) rfl ⟨rfl, rfl, rfl, trivial⟩ ?_
      refine xw_call xb_72 rfl rfl rfl rfl rfl (Or.inr ⟨_, _, rfl, rfl⟩) (c_wetBySet (I := I) hP.1 hO (o := N 3) (n := n) (xOn32 hO) (by omega) hN3 rfl) ?_
      rintro _ _ ⟨rfl, I1, rfl, g1, _, _, g2⟩
      refine xw_at (f' := (38, [.ref 0, .int (nI c), .int (nI n)], [.ref 25])) (h' := (xS b, I1, L, xP b)) rfl rfl ?_
      refine xw_go xb_72 2 (f1 := (40, [.ref 0, .int (nI c), .int (nI n)], [.int (I1 25 (nI c).toNatClampNeg)])) (h1 := (xS b, I1, L, xP b)) rfl ⟨(xn_ar (n := c) (N := 64) rfl (by omega) (by decide)), trivial⟩ ?_
      refine xw_ret xb_72 rfl rfl trivial ?_
      rw [xn_cl (by omega), g2 c hc]
      exact ⟨rfl, I1, rfl, xFF_P g1, xFF_L g1 (by omega) hP⟩
    · skip
      exfalso
      try simp only [xB_dec, Classical.not_not] at c_8 c_18
      try simp (disch := omega) only [xt_eq, xt_lt, xt_le, xkt_0, xkt_1, xkt_2, xkt_3, xkt_4, xkt_5, xkt_6, xkt_7, xkt_8, xkt_9, xkt_10, xkt_11, xkt_12, xkt_13, xkt_14, xkt_16, xkt_20, xkt_24, xkt_31, xkt_32, xkt_40, xkt_44, xkt_47, xkt_48, xkt_57, xkt_59, xkt_60, xkt_63, xkt_64, xkt_65, xkt_72, xkt_95, xkt_99, xkt_100, xkt_101, xkt_103, xkt_110, xkt_112, xkt_113, xkt_114, xkt_119, xkt_126, xkt_159, xkt_576, xkt_999, xkt_9999, xkt_65536, xkt_999999, xkt_m1, xkt_m2, xkt_m3, xkt_m4, xkt_m11, xkt_m12, xkt_m13, xkt_m14, xkt_m20, xjt_0, xjt_1, xjt_2, xjt_3, xjt_4, xjt_5, xjt_6, xjt_7, xjt_8, xjt_9, xjt_10, xjt_11, xjt_12, xjt_13, xjt_14, xjt_16, xjt_20, xjt_24, xjt_31, xjt_32, xjt_40, xjt_44, xjt_47, xjt_48, xjt_57, xjt_59, xjt_60, xjt_63, xjt_64, xjt_65, xjt_72, xjt_95, xjt_99, xjt_100, xjt_101, xjt_103, xjt_110, xjt_112, xjt_113, xjt_114, xjt_119, xjt_126, xjt_159, xjt_576, xjt_999, xjt_9999, xjt_65536, xjt_999999, xt64, xt_n, not_true_eq_false, not_false_eq_true, Classical.not_not] at c_8 c_18
      all_goals omega

theorem m_ahead0 {d : Nat} {b : Bool} {I : Nat → Nat → Int32} {L : Nat → Nat → Int64} {N : Nat → Nat} {u : Nat} {U : Nat → Nat → Nat} (hM : xML N u U I) (hK : xUK N u U) {x y : Int32} (hx : ¬ (0 ≤ x.toInt ∧ x.toInt < ((N 0 * N 1 : Nat) : Int) ∧ 0 ≤ y.toInt ∧ y.toInt ≤ 99)) : xm_Z (d + 6) 149 [.ref 60, .int x, .int y] (xS b, I, L, xP b) (fun rz hz => xQM b I L (-1) N u U rz hz) := by
  have hO := hK.1
  have hb := hK.1.1
  have c64 : N 0 * N 1 ≤ 64 := xce_le hO
  have c4 : 4 ≤ N 0 * N 1 := xce_ge hO
  refine xw_S xb_149 (l := [.ref 60, .int x, .int y, .float 0]) (Nat.le_of_ble_eq_true rfl) rfl ?_
  refine xw_go xb_149 2 (f1 := (2, [.ref 60, .int x, .int y, .float 0], [.int x, .ref 60])) (h1 := (xS b, I, L, xP b)) rfl trivial ?_
  refine xw_call xb_149 rfl rfl rfl rfl rfl (Or.inr ⟨_, _, rfl, rfl⟩) (m_isCell (I := I) hM.1 hO) ?_
  rintro _ _ ⟨rfl, rfl⟩
  refine xw_at (f' := (5, [.ref 60, .int x, .int y, .float 0], [.int (nI (xB (decide (0 ≤ x.toInt ∧ x.toInt < ((N 0 * N 1 : Nat) : Int)))))])) (h' := (xS b, I, L, xP b)) rfl rfl ?_
  refine xw_go xb_149 1 (f1 := (if (nI (xB (decide (0 ≤ x.toInt ∧ x.toInt < ((N 0 * N 1 : Nat) : Int))))) = 0 then 20 else 8, [.ref 60, .int x, .int y, .float 0], [])) (h1 := (xS b, I, L, xP b)) rfl trivial ?_
  refine xw_if (fun c_5 => ?_) (fun c_5 => ?_)
  · skip
    refine xw_go xb_149 1 (f1 := (21, [.ref 60, .int x, .int y, .float 0], [.int (-1)])) (h1 := (xS b, I, L, xP b)) rfl trivial ?_
    refine xw_ret xb_149 rfl rfl trivial ?_
    exact xQM_same hM
  · skip
    refine xw_go xb_149 4 (f1 := (14, [.ref 60, .int x, .int y, .float 0], [.long 99, .long 0, .long y.toInt64])) (h1 := (xS b, I, L, xP b)) rfl trivial ?_
    refine xw_call xb_149 rfl rfl rfl rfl rfl (Or.inl rfl) m_in ?_
    rintro _ _ ⟨rfl, rfl⟩
    refine xw_at (f' := (17, [.ref 60, .int x, .int y, .float 0], [.int (nI (xB (decide ((0 : Int64).toInt ≤ y.toInt64.toInt ∧ y.toInt64.toInt ≤ (99 : Int64).toInt))))])) (h' := (xS b, I, L, xP b)) rfl rfl ?_
    refine xw_go xb_149 1 (f1 := (if ¬ (nI (xB (decide ((0 : Int64).toInt ≤ y.toInt64.toInt ∧ y.toInt64.toInt ≤ (99 : Int64).toInt)))) = 0 then 22 else 20, [.ref 60, .int x, .int y, .float 0], [])) (h1 := (xS b, I, L, xP b)) rfl trivial ?_
    refine xw_if (fun c_17 => ?_) (fun c_17 => ?_)
    · skip
      exfalso
      try simp only [xB_dec, Classical.not_not] at c_5 c_17
      try simp (disch := omega) only [xt_eq, xt_lt, xt_le, xkt_0, xkt_1, xkt_2, xkt_3, xkt_4, xkt_5, xkt_6, xkt_7, xkt_8, xkt_9, xkt_10, xkt_11, xkt_12, xkt_13, xkt_14, xkt_16, xkt_20, xkt_24, xkt_31, xkt_32, xkt_40, xkt_44, xkt_47, xkt_48, xkt_57, xkt_59, xkt_60, xkt_63, xkt_64, xkt_65, xkt_72, xkt_95, xkt_99, xkt_100, xkt_101, xkt_103, xkt_110, xkt_112, xkt_113, xkt_114, xkt_119, xkt_126, xkt_159, xkt_576, xkt_999, xkt_9999, xkt_65536, xkt_999999, xkt_m1, xkt_m2, xkt_m3, xkt_m4, xkt_m11, xkt_m12, xkt_m13, xkt_m14, xkt_m20, xjt_0, xjt_1, xjt_2, xjt_3, xjt_4, xjt_5, xjt_6, xjt_7, xjt_8, xjt_9, xjt_10, xjt_11, xjt_12, xjt_13, xjt_14, xjt_16, xjt_20, xjt_24, xjt_31, xjt_32, xjt_40, xjt_44, xjt_47, xjt_48, xjt_57, xjt_59, xjt_60, xjt_63, xjt_64, xjt_65, xjt_72, xjt_95, xjt_99, xjt_100, xjt_101, xjt_103, xjt_110, xjt_112, xjt_113, xjt_114, xjt_119, xjt_126, xjt_159, xjt_576, xjt_999, xjt_9999, xjt_65536, xjt_999999, xt64, xt_n, not_true_eq_false, not_false_eq_true, Classical.not_not] at c_5 c_17
      all_goals omega
    · skip
      refine xw_go xb_149 1 (f1 := (21, [.ref 60, .int x, .int y, .float 0], [.int (-1)])) (h1 := (xS b, I, L, xP b)) rfl trivial ?_
      refine xw_ret xb_149 rfl rfl trivial ?_
      exact xQM_same hM

set_option maxHeartbeats 4000000 in
theorem m_ahead1 {d : Nat} {b : Bool} {I : Nat → Nat → Int32} {L : Nat → Nat → Int64} {N : Nat → Nat} {u : Nat} {U : Nat → Nat → Nat} (hM : xML N u U I) (hK : xUK N u U) {c n : Nat} (hc : c < N 0 * N 1) (hn : n ≤ 99) {x : Int32} (e_x : x = nI c) {y : Int32} (e_y : y = nI n) : xm_Z (d + 6) 149 [.ref 60, .int x, .int y] (xS b, I, L, xP b) (fun rz hz => xQM b I L (nI (xgoN N (xfa N (N 3) (N 5)) n (95 + c))) N u U rz hz) := by
  subst e_x
  subst e_y
  have hO := hK.1
  have hb := hK.1.1
  have c64 : N 0 * N 1 ≤ 64 := xce_le hO
  have c4 : 4 ≤ N 0 * N 1 := xce_ge hO
  have h4 := hK.2.1
  refine xw_S xb_149 (l := [.ref 60, .int (nI c), .int (nI n), .float 0]) (Nat.le_of_ble_eq_true rfl) rfl ?_
  refine xw_go xb_149 2 (f1 := (2, [.ref 60, .int (nI c), .int (nI n), .float 0], [.int (nI c), .ref 60])) (h1 := (xS b, I, L, xP b)) rfl trivial ?_
  refine xw_call xb_149 rfl rfl rfl rfl rfl (Or.inr ⟨_, _, rfl, rfl⟩) (m_isCell (I := I) hM.1 hO) ?_
  rintro _ _ ⟨rfl, rfl⟩
  refine xw_at (f' := (5, [.ref 60, .int (nI c), .int (nI n), .float 0], [.int (nI (xB (decide (0 ≤ (nI c).toInt ∧ (nI c).toInt < ((N 0 * N 1 : Nat) : Int)))))])) (h' := (xS b, I, L, xP b)) rfl rfl ?_
  refine xw_go xb_149 1 (f1 := (if (nI (xB (decide (0 ≤ (nI c).toInt ∧ (nI c).toInt < ((N 0 * N 1 : Nat) : Int))))) = 0 then 20 else 8, [.ref 60, .int (nI c), .int (nI n), .float 0], [])) (h1 := (xS b, I, L, xP b)) rfl trivial ?_
  refine xw_if (fun c_5 => ?_) (fun c_5 => ?_)
  · skip
    exfalso
    try simp only [xB_dec, Classical.not_not] at c_5
    try simp (disch := omega) only [xt_eq, xt_lt, xt_le, xkt_0, xkt_1, xkt_2, xkt_3, xkt_4, xkt_5, xkt_6, xkt_7, xkt_8, xkt_9, xkt_10, xkt_11, xkt_12, xkt_13, xkt_14, xkt_16, xkt_20, xkt_24, xkt_31, xkt_32, xkt_40, xkt_44, xkt_47, xkt_48, xkt_57, xkt_59, xkt_60, xkt_63, xkt_64, xkt_65, xkt_72, xkt_95, xkt_99, xkt_100, xkt_101, xkt_103, xkt_110, xkt_112, xkt_113, xkt_114, xkt_119, xkt_126, xkt_159, xkt_576, xkt_999, xkt_9999, xkt_65536, xkt_999999, xkt_m1, xkt_m2, xkt_m3, xkt_m4, xkt_m11, xkt_m12, xkt_m13, xkt_m14, xkt_m20, xjt_0, xjt_1, xjt_2, xjt_3, xjt_4, xjt_5, xjt_6, xjt_7, xjt_8, xjt_9, xjt_10, xjt_11, xjt_12, xjt_13, xjt_14, xjt_16, xjt_20, xjt_24, xjt_31, xjt_32, xjt_40, xjt_44, xjt_47, xjt_48, xjt_57, xjt_59, xjt_60, xjt_63, xjt_64, xjt_65, xjt_72, xjt_95, xjt_99, xjt_100, xjt_101, xjt_103, xjt_110, xjt_112, xjt_113, xjt_114, xjt_119, xjt_126, xjt_159, xjt_576, xjt_999, xjt_9999, xjt_65536, xjt_999999, xt64, xt_n, not_true_eq_false, not_false_eq_true, Classical.not_not] at c_5
    all_goals omega
  · skip
    refine xw_go xb_149 4 (f1 := (14, [.ref 60, .int (nI c), .int (nI n), .float 0], [.long 99, .long 0, .long ((nI n).toInt64)])) (h1 := (xS b, I, L, xP b)) rfl trivial ?_
    refine xw_call xb_149 rfl rfl rfl rfl rfl (Or.inl rfl) m_in ?_
    rintro _ _ ⟨rfl, rfl⟩
    refine xw_at (f' := (17, [.ref 60, .int (nI c), .int (nI n), .float 0], [.int (nI (xB (decide ((0 : Int64).toInt ≤ (nI n).toInt64.toInt ∧ (nI n).toInt64.toInt ≤ (99 : Int64).toInt))))])) (h' := (xS b, I, L, xP b)) rfl rfl ?_
    refine xw_go xb_149 1 (f1 := (if ¬ (nI (xB (decide ((0 : Int64).toInt ≤ (nI n).toInt64.toInt ∧ (nI n).toInt64.toInt ≤ (99 : Int64).toInt)))) = 0 then 22 else 20, [.ref 60, .int (nI c), .int (nI n), .float 0], [])) (h1 := (xS b, I, L, xP b)) rfl trivial ?_
    refine xw_if (fun c_17 => ?_) (fun c_17 => ?_)
    · skip
      refine xw_go xb_149 1 (f1 := (23, [.ref 60, .int (nI c), .int (nI n), .float 0], [.ref 60])) (h1 := (xS b, I, L, xP b)) rfl trivial ?_
      refine xw_call xb_149 rfl rfl rfl rfl rfl (Or.inr ⟨_, _, rfl, rfl⟩) (m_asides (I := I)) ?_
      rintro _ _ ⟨rfl, rfl⟩
      refine xw_at (f' := (26, [.ref 60, .int (nI c), .int (nI n), .float 0], [])) (h' := (xS b, va_up I 68 (xfil 159 (I 61) (I 68)), L, xP b)) rfl rfl ?_
      refine xw_go xb_149 9 (f1 := (39, [.ref 60, .int (nI c), .int (nI n), .float 0], [.int ((va_up I 68 (xfil 159 (I 61) (I 68))) 61 (5 : Int32).toNatClampNeg), .int ((va_up I 68 (xfil 159 (I 61) (I 68))) 61 (3 : Int32).toNatClampNeg), .ref 60])) (h1 := (xS b, va_up I 68 (xfil 159 (I 61) (I 68)), L, xP b)) rfl ⟨rfl, (xn_ar (n := 3) (N := 159) rfl (by decide) (by decide)), rfl, (xn_ar (n := 5) (N := 159) rfl (by decide) (by decide)), trivial⟩ ?_
      refine xw_call xb_149 rfl rfl rfl rfl rfl (Or.inr ⟨_, _, rfl, rfl⟩) (m_rains (I := (va_up I 68 (xfil 159 (I 61) (I 68)))) (N := N) (fun k hk => hM.1 k hk) hO (o := N 3) (wi := N 5) (xOn32 hO) (by omega) (hM.1 3 (by decide)) (hM.1 5 (by decide))) ?_
      rintro _ _ ⟨rfl, X, rfl, hX⟩
      refine xw_at (f' := (42, [.ref 60, .int (nI c), .int (nI n), .float 0], [])) (h' := (xS b, va_up (va_up I 68 (xfil 159 (I 61) (I 68))) 62 X, L, xP b)) rfl rfl ?_
      refine xw_go xb_149 2 (f1 := (44, [.ref 60, .int (nI c), .int (nI n), .float 0], [.int (nI n), .ref 60])) (h1 := (xS b, va_up (va_up I 68 (xfil 159 (I 61) (I 68))) 62 X, L, xP b)) rfl trivial ?_
      refine xw_call xb_149 rfl rfl rfl rfl rfl (Or.inr ⟨_, _, rfl, rfl⟩) (m_goesOn (I := (va_up (va_up I 68 (xfil 159 (I 61) (I 68))) 62 X)) (N := N) (fun k hk => hM.1 k hk) hO (fv := (xfa N (N 3) (N 5))) (fun j hj => hX j hj) (fun j hj => by have := xfa_le hO (N 3) (N 5) j; omega) (n := n) (by omega) rfl) ?_
      rintro _ _ ⟨rfl, X1, Y1, rfl, hY⟩
      refine xw_at (f' := (47, [.ref 60, .int (nI c), .int (nI n), .float 0], [])) (h' := (xS b, va_up (va_up (va_up (va_up I 68 (xfil 159 (I 61) (I 68))) 62 X) 63 X1) 61 Y1, L, xP b)) rfl rfl ?_
      refine xw_go xb_149 6 (f1 := (56, [.ref 60, .int (nI c), .int (nI n), .float 0], [.int ((va_up (va_up (va_up (va_up I 68 (xfil 159 (I 61) (I 68))) 62 X) 63 X1) 61 Y1) 61 (95 + (nI c)).toNatClampNeg)])) (h1 := (xS b, va_up (va_up (va_up (va_up I 68 (xfil 159 (I 61) (I 68))) 62 X) 63 X1) 61 Y1, L, xP b)) rfl ⟨rfl, (xn_ar' (n := 95 + c) (N := 159) rfl (show 95 + nI c = _ by rw [xl_95, nI_add]) (by omega) (by decide)), trivial⟩ ?_
      refine xw_cong (l' := [.ref 60, .int (nI c), .int (nI n), .float 0]) (st' := [.int (nI (xgoN N (xfa N (N 3) (N 5)) n (95 + c)))]) (h' := (xS b, va_up (va_up (va_up (va_up I 68 (xfil 159 (I 61) (I 68))) 62 X) 63 X1) 61 Y1, L, xP b)) rfl (show ([.int ((va_up (va_up (va_up (va_up I 68 (xfil 159 (I 61) (I 68))) 62 X) 63 X1) 61 Y1) 61 (95 + (nI c)).toNatClampNeg)] : List Value) = [.int (nI (xgoN N (xfa N (N 3) (N 5)) n (95 + c)))] from ?_) rfl ?_
      · rw [xl_95, nI_add, xn_cl (by omega)]
        exact congrArg (fun z => [Value.int z]) (hY _ (by omega))
      refine xw_go xb_149 2 (f1 := (58, [.ref 60, .int (nI c), .int (nI n), .int (nI (xgoN N (xfa N (N 3) (N 5)) n (95 + c)))], [.ref 60])) (h1 := (xS b, va_up (va_up (va_up (va_up I 68 (xfil 159 (I 61) (I 68))) 62 X) 63 X1) 61 Y1, L, xP b)) rfl trivial ?_
      refine xw_call xb_149 rfl rfl rfl rfl rfl (Or.inr ⟨_, _, rfl, rfl⟩) (m_backs (I := (va_up (va_up (va_up (va_up I 68 (xfil 159 (I 61) (I 68))) 62 X) 63 X1) 61 Y1))) ?_
      rintro _ _ ⟨rfl, rfl⟩
      refine xw_at (f' := (61, [.ref 60, .int (nI c), .int (nI n), .int (nI (xgoN N (xfa N (N 3) (N 5)) n (95 + c)))], [])) (h' := (xS b, va_up (va_up (va_up (va_up (va_up I 68 (xfil 159 (I 61) (I 68))) 62 X) 63 X1) 61 Y1) 61 (xfil 159 ((va_up (va_up (va_up (va_up I 68 (xfil 159 (I 61) (I 68))) 62 X) 63 X1) 61 Y1) 68) ((va_up (va_up (va_up (va_up I 68 (xfil 159 (I 61) (I 68))) 62 X) 63 X1) 61 Y1) 61)), L, xP b)) rfl rfl ?_
      refine xw_go xb_149 1 (f1 := (62, [.ref 60, .int (nI c), .int (nI n), .int (nI (xgoN N (xfa N (N 3) (N 5)) n (95 + c)))], [.int (nI (xgoN N (xfa N (N 3) (N 5)) n (95 + c)))])) (h1 := (xS b, va_up (va_up (va_up (va_up (va_up I 68 (xfil 159 (I 61) (I 68))) 62 X) 63 X1) 61 Y1) 61 (xfil 159 ((va_up (va_up (va_up (va_up I 68 (xfil 159 (I 61) (I 68))) 62 X) 63 X1) 61 Y1) 68) ((va_up (va_up (va_up (va_up I 68 (xfil 159 (I 61) (I 68))) 62 X) 63 X1) 61 Y1) 61)), L, xP b)) rfl trivial ?_
      refine xw_ret xb_149 rfl rfl trivial ?_
      refine ⟨rfl, _, rfl, xMF_v (xMF_v (xMF_v (xMF_v (xMF_v (xMF_r I) (by decide)) (by decide)) (by decide)) (by decide)) (by decide), xML_N hM (fun k hk => ?_) rfl rfl⟩
      rw [show ∀ (f : Nat → Nat → Int32) (g : Nat → Int32), va_up f 61 g 61 = g from fun f g => by simp [va_up]]
      unfold xfil
      rw [if_pos hk, xm_vu_o (by decide), xm_vu_o (by decide), xm_vu_o (by decide)]
      rw [show ∀ (f : Nat → Nat → Int32) (g : Nat → Int32), va_up f 68 g 68 = g from fun f g => by simp [va_up]]
      rw [if_pos hk]
      exact hM.1 k hk
    · skip
      exfalso
      try simp only [xB_dec, Classical.not_not] at c_5 c_17
      try simp (disch := omega) only [xt_eq, xt_lt, xt_le, xkt_0, xkt_1, xkt_2, xkt_3, xkt_4, xkt_5, xkt_6, xkt_7, xkt_8, xkt_9, xkt_10, xkt_11, xkt_12, xkt_13, xkt_14, xkt_16, xkt_20, xkt_24, xkt_31, xkt_32, xkt_40, xkt_44, xkt_47, xkt_48, xkt_57, xkt_59, xkt_60, xkt_63, xkt_64, xkt_65, xkt_72, xkt_95, xkt_99, xkt_100, xkt_101, xkt_103, xkt_110, xkt_112, xkt_113, xkt_114, xkt_119, xkt_126, xkt_159, xkt_576, xkt_999, xkt_9999, xkt_65536, xkt_999999, xkt_m1, xkt_m2, xkt_m3, xkt_m4, xkt_m11, xkt_m12, xkt_m13, xkt_m14, xkt_m20, xjt_0, xjt_1, xjt_2, xjt_3, xjt_4, xjt_5, xjt_6, xjt_7, xjt_8, xjt_9, xjt_10, xjt_11, xjt_12, xjt_13, xjt_14, xjt_16, xjt_20, xjt_24, xjt_31, xjt_32, xjt_40, xjt_44, xjt_47, xjt_48, xjt_57, xjt_59, xjt_60, xjt_63, xjt_64, xjt_65, xjt_72, xjt_95, xjt_99, xjt_100, xjt_101, xjt_103, xjt_110, xjt_112, xjt_113, xjt_114, xjt_119, xjt_126, xjt_159, xjt_576, xjt_999, xjt_9999, xjt_65536, xjt_999999, xt64, xt_n, not_true_eq_false, not_false_eq_true, Classical.not_not] at c_5 c_17
      all_goals omega

theorem c_wrongs0 {d : Nat} {b : Bool} {I : Nat → Nat → Int32} {L : Nat → Nat → Int64} {N : Nat → Nat} {u : Nat} {U : Nat → Nat → Nat} (hP : xPL N u U 1 I) (hK : xUK N u U) {x y : Int32} (hx : ¬ (0 ≤ x.toInt ∧ x.toInt ≤ 99 ∧ 0 ≤ y.toInt ∧ y.toInt ≤ 1)) : xm_Z (d + 6) 74 [.ref 0, .int x, .int y] (xS b, I, L, xP b) (fun rz hz => xQC b I L (-1) N u U rz hz) := by
  have hO := hK.1
  have hb := hK.1.1
  have c64 : N 0 * N 1 ≤ 64 := xce_le hO
  have c4 : 4 ≤ N 0 * N 1 := xce_ge hO
  obtain ⟨⟨hN0, hN1, hN2, hN3, hN4, hN5, hN6, hN7, hN8, hN9, hN10⟩, hNs, hNw, hNp⟩ := hP.1
  refine xw_S xb_74 (l := [.ref 0, .int x, .int y, .float 0]) (Nat.le_of_ble_eq_true rfl) rfl ?_
  refine xw_go xb_74 3 (f1 := (4, [.ref 0, .int x, .int y, .float 0], [.int 99, .int 0, .int x])) (h1 := (xS b, I, L, xP b)) rfl trivial ?_
  refine xw_call xb_74 rfl rfl rfl rfl rfl (Or.inl rfl) c_within ?_
  rintro _ _ ⟨rfl, rfl⟩
  refine xw_at (f' := (7, [.ref 0, .int x, .int y, .float 0], [.int (nI (xB (decide ((0 : Int32).toInt ≤ x.toInt ∧ x.toInt ≤ (99 : Int32).toInt))))])) (h' := (xS b, I, L, xP b)) rfl rfl ?_
  refine xw_go xb_74 1 (f1 := (if (nI (xB (decide ((0 : Int32).toInt ≤ x.toInt ∧ x.toInt ≤ (99 : Int32).toInt)))) = 0 then 19 else 10, [.ref 0, .int x, .int y, .float 0], [])) (h1 := (xS b, I, L, xP b)) rfl trivial ?_
  refine xw_if (fun c_7 => ?_) (fun c_7 => ?_)
  · skip
    refine xw_go xb_74 1 (f1 := (20, [.ref 0, .int x, .int y, .float 0], [.int (-1)])) (h1 := (xS b, I, L, xP b)) rfl trivial ?_
    refine xw_ret xb_74 rfl rfl trivial ?_
    exact xQC_same hP
  · skip
    refine xw_go xb_74 3 (f1 := (13, [.ref 0, .int x, .int y, .float 0], [.int 1, .int 0, .int y])) (h1 := (xS b, I, L, xP b)) rfl trivial ?_
    refine xw_call xb_74 rfl rfl rfl rfl rfl (Or.inl rfl) c_within ?_
    rintro _ _ ⟨rfl, rfl⟩
    refine xw_at (f' := (16, [.ref 0, .int x, .int y, .float 0], [.int (nI (xB (decide ((0 : Int32).toInt ≤ y.toInt ∧ y.toInt ≤ (1 : Int32).toInt))))])) (h' := (xS b, I, L, xP b)) rfl rfl ?_
    refine xw_go xb_74 1 (f1 := (if ¬ (nI (xB (decide ((0 : Int32).toInt ≤ y.toInt ∧ y.toInt ≤ (1 : Int32).toInt)))) = 0 then 21 else 19, [.ref 0, .int x, .int y, .float 0], [])) (h1 := (xS b, I, L, xP b)) rfl trivial ?_
    refine xw_if (fun c_16 => ?_) (fun c_16 => ?_)
    · skip
      exfalso
      try simp only [xB_dec, Classical.not_not] at c_7 c_16
      try simp (disch := omega) only [xt_eq, xt_lt, xt_le, xkt_0, xkt_1, xkt_2, xkt_3, xkt_4, xkt_5, xkt_6, xkt_7, xkt_8, xkt_9, xkt_10, xkt_11, xkt_12, xkt_13, xkt_14, xkt_16, xkt_20, xkt_24, xkt_31, xkt_32, xkt_40, xkt_44, xkt_47, xkt_48, xkt_57, xkt_59, xkt_60, xkt_63, xkt_64, xkt_65, xkt_72, xkt_95, xkt_99, xkt_100, xkt_101, xkt_103, xkt_110, xkt_112, xkt_113, xkt_114, xkt_119, xkt_126, xkt_159, xkt_576, xkt_999, xkt_9999, xkt_65536, xkt_999999, xkt_m1, xkt_m2, xkt_m3, xkt_m4, xkt_m11, xkt_m12, xkt_m13, xkt_m14, xkt_m20, xjt_0, xjt_1, xjt_2, xjt_3, xjt_4, xjt_5, xjt_6, xjt_7, xjt_8, xjt_9, xjt_10, xjt_11, xjt_12, xjt_13, xjt_14, xjt_16, xjt_20, xjt_24, xjt_31, xjt_32, xjt_40, xjt_44, xjt_47, xjt_48, xjt_57, xjt_59, xjt_60, xjt_63, xjt_64, xjt_65, xjt_72, xjt_95, xjt_99, xjt_100, xjt_101, xjt_103, xjt_110, xjt_112, xjt_113, xjt_114, xjt_119, xjt_126, xjt_159, xjt_576, xjt_999, xjt_9999, xjt_65536, xjt_999999, xt64, xt_n, not_true_eq_false, not_false_eq_true, Classical.not_not] at c_7 c_16
      all_goals omega
    · skip
      refine xw_go xb_74 1 (f1 := (20, [.ref 0, .int x, .int y, .float 0], [.int (-1)])) (h1 := (xS b, I, L, xP b)) rfl trivial ?_
      refine xw_ret xb_74 rfl rfl trivial ?_
      exact xQC_same hP

theorem m_wrongs0 {d : Nat} {b : Bool} {I : Nat → Nat → Int32} {L : Nat → Nat → Int64} {N : Nat → Nat} {u : Nat} {U : Nat → Nat → Nat} (hM : xML N u U I) (hK : xUK N u U) {x y : Int32} (hx : ¬ (0 ≤ x.toInt ∧ x.toInt ≤ 99 ∧ 0 ≤ y.toInt ∧ y.toInt ≤ 1)) : xm_Z (d + 6) 153 [.ref 60, .int x, .int y] (xS b, I, L, xP b) (fun rz hz => xQM b I L (-1) N u U rz hz) := by
  have hO := hK.1
  have hb := hK.1.1
  have c64 : N 0 * N 1 ≤ 64 := xce_le hO
  have c4 : 4 ≤ N 0 * N 1 := xce_ge hO
  refine xw_S xb_153 (l := [.ref 60, .int x, .int y, .float 0]) (Nat.le_of_ble_eq_true rfl) rfl ?_
  refine xw_go xb_153 4 (f1 := (6, [.ref 60, .int x, .int y, .float 0], [.long 99, .long 0, .long x.toInt64])) (h1 := (xS b, I, L, xP b)) rfl trivial ?_
  refine xw_call xb_153 rfl rfl rfl rfl rfl (Or.inl rfl) m_in ?_
  rintro _ _ ⟨rfl, rfl⟩
  refine xw_at (f' := (9, [.ref 60, .int x, .int y, .float 0], [.int (nI (xB (decide ((0 : Int64).toInt ≤ x.toInt64.toInt ∧ x.toInt64.toInt ≤ (99 : Int64).toInt))))])) (h' := (xS b, I, L, xP b)) rfl rfl ?_
  refine xw_go xb_153 1 (f1 := (if (nI (xB (decide ((0 : Int64).toInt ≤ x.toInt64.toInt ∧ x.toInt64.toInt ≤ (99 : Int64).toInt)))) = 0 then 22 else 12, [.ref 60, .int x, .int y, .float 0], [])) (h1 := (xS b, I, L, xP b)) rfl trivial ?_
  refine xw_if (fun c_9 => ?_) (fun c_9 => ?_)
  · skip
    refine xw_go xb_153 1 (f1 := (23, [.ref 60, .int x, .int y, .float 0], [.int (-1)])) (h1 := (xS b, I, L, xP b)) rfl trivial ?_
    refine xw_ret xb_153 rfl rfl trivial ?_
    exact xQM_same hM
  · skip
    refine xw_go xb_153 4 (f1 := (16, [.ref 60, .int x, .int y, .float 0], [.long 1, .long 0, .long y.toInt64])) (h1 := (xS b, I, L, xP b)) rfl trivial ?_
    refine xw_call xb_153 rfl rfl rfl rfl rfl (Or.inl rfl) m_in ?_
    rintro _ _ ⟨rfl, rfl⟩
    refine xw_at (f' := (19, [.ref 60, .int x, .int y, .float 0], [.int (nI (xB (decide ((0 : Int64).toInt ≤ y.toInt64.toInt ∧ y.toInt64.toInt ≤ (1 : Int64).toInt))))])) (h' := (xS b, I, L, xP b)) rfl rfl ?_
    refine xw_go xb_153 1 (f1 := (if ¬ (nI (xB (decide ((0 : Int64).toInt ≤ y.toInt64.toInt ∧ y.toInt64.toInt ≤ (1 : Int64).toInt)))) = 0 then 24 else 22, [.ref 60, .int x, .int y, .float 0], [])) (h1 := (xS b, I, L, xP b)) rfl trivial ?_
    refine xw_if (fun c_19 => ?_) (fun c_19 => ?_)
    · skip
      exfalso
      try simp only [xB_dec, Classical.not_not] at c_9 c_19
      try simp (disch := omega) only [xt_eq, xt_lt, xt_le, xkt_0, xkt_1, xkt_2, xkt_3, xkt_4, xkt_5, xkt_6, xkt_7, xkt_8, xkt_9, xkt_10, xkt_11, xkt_12, xkt_13, xkt_14, xkt_16, xkt_20, xkt_24, xkt_31, xkt_32, xkt_40, xkt_44, xkt_47, xkt_48, xkt_57, xkt_59, xkt_60, xkt_63, xkt_64, xkt_65, xkt_72, xkt_95, xkt_99, xkt_100, xkt_101, xkt_103, xkt_110, xkt_112, xkt_113, xkt_114, xkt_119, xkt_126, xkt_159, xkt_576, xkt_999, xkt_9999, xkt_65536, xkt_999999, xkt_m1, xkt_m2, xkt_m3, xkt_m4, xkt_m11, xkt_m12, xkt_m13, xkt_m14, xkt_m20, xjt_0, xjt_1, xjt_2, xjt_3, xjt_4, xjt_5, xjt_6, xjt_7, xjt_8, xjt_9, xjt_10, xjt_11, xjt_12, xjt_13, xjt_14, xjt_16, xjt_20, xjt_24, xjt_31, xjt_32, xjt_40, xjt_44, xjt_47, xjt_48, xjt_57, xjt_59, xjt_60, xjt_63, xjt_64, xjt_65, xjt_72, xjt_95, xjt_99, xjt_100, xjt_101, xjt_103, xjt_110, xjt_112, xjt_113, xjt_114, xjt_119, xjt_126, xjt_159, xjt_576, xjt_999, xjt_9999, xjt_65536, xjt_999999, xt64, xt_n, not_true_eq_false, not_false_eq_true, Classical.not_not] at c_9 c_19
      all_goals omega
    · skip
      refine xw_go xb_153 1 (f1 := (23, [.ref 60, .int x, .int y, .float 0], [.int (-1)])) (h1 := (xS b, I, L, xP b)) rfl trivial ?_
      refine xw_ret xb_153 rfl rfl trivial ?_
      exact xQM_same hM

theorem c_wrongs10 {d : Nat} {b : Bool} {I : Nat → Nat → Int32} {L : Nat → Nat → Int64} {N : Nat → Nat} {u : Nat} {U : Nat → Nat → Nat} (hP : xPL N u U 1 I) (hK : xUK N u U) {n : Nat} (hn : n ≤ 99) {x : Int32} (e_x : x = nI n) {y : Int32} (e_y : y = nI 0) : xm_Z (d + 6) 74 [.ref 0, .int x, .int y] (xS b, I, L, xP b) (fun rz hz => xQC b I L (nI (xwc (xgoN N (xfa N (N 3) (N 5)) n))) N u U rz hz) := by
  subst e_x
  subst e_y
  have hO := hK.1
  have hb := hK.1.1
  have c64 : N 0 * N 1 ≤ 64 := xce_le hO
  have c4 : 4 ≤ N 0 * N 1 := xce_ge hO
  obtain ⟨⟨hN0, hN1, hN2, hN3, hN4, hN5, hN6, hN7, hN8, hN9, hN10⟩, hNs, hNw, hNp⟩ := hP.1
  refine xw_S xb_74 (l := [.ref 0, .int (nI n), .int (nI 0), .float 0]) (Nat.le_of_ble_eq_true rfl) rfl ?_
  refine xw_go xb_74 3 (f1 := (4, [.ref 0, .int (nI n), .int (nI 0), .float 0], [.int 99, .int 0, .int (nI n)])) (h1 := (xS b, I, L, xP b)) rfl trivial ?_
  refine xw_call xb_74 rfl rfl rfl rfl rfl (Or.inl rfl) c_within ?_
  rintro _ _ ⟨rfl, rfl⟩
  refine xw_at (f' := (7, [.ref 0, .int (nI n), .int (nI 0), .float 0], [.int (nI (xB (decide ((0 : Int32).toInt ≤ (nI n).toInt ∧ (nI n).toInt ≤ (99 : Int32).toInt))))])) (h' := (xS b, I, L, xP b)) rfl rfl ?_
  refine xw_go xb_74 1 (f1 := (if (nI (xB (decide ((0 : Int32).toInt ≤ (nI n).toInt ∧ (nI n).toInt ≤ (99 : Int32).toInt)))) = 0 then 19 else 10, [.ref 0, .int (nI n), .int (nI 0), .float 0], [])) (h1 := (xS b, I, L, xP b)) rfl trivial ?_
  refine xw_if (fun c_7 => ?_) (fun c_7 => ?_)
  · skip
    exfalso
    try simp only [xB_dec, Classical.not_not] at c_7
    try simp (disch := omega) only [xt_eq, xt_lt, xt_le, xkt_0, xkt_1, xkt_2, xkt_3, xkt_4, xkt_5, xkt_6, xkt_7, xkt_8, xkt_9, xkt_10, xkt_11, xkt_12, xkt_13, xkt_14, xkt_16, xkt_20, xkt_24, xkt_31, xkt_32, xkt_40, xkt_44, xkt_47, xkt_48, xkt_57, xkt_59, xkt_60, xkt_63, xkt_64, xkt_65, xkt_72, xkt_95, xkt_99, xkt_100, xkt_101, xkt_103, xkt_110, xkt_112, xkt_113, xkt_114, xkt_119, xkt_126, xkt_159, xkt_576, xkt_999, xkt_9999, xkt_65536, xkt_999999, xkt_m1, xkt_m2, xkt_m3, xkt_m4, xkt_m11, xkt_m12, xkt_m13, xkt_m14, xkt_m20, xjt_0, xjt_1, xjt_2, xjt_3, xjt_4, xjt_5, xjt_6, xjt_7, xjt_8, xjt_9, xjt_10, xjt_11, xjt_12, xjt_13, xjt_14, xjt_16, xjt_20, xjt_24, xjt_31, xjt_32, xjt_40, xjt_44, xjt_47, xjt_48, xjt_57, xjt_59, xjt_60, xjt_63, xjt_64, xjt_65, xjt_72, xjt_95, xjt_99, xjt_100, xjt_101, xjt_103, xjt_110, xjt_112, xjt_113, xjt_114, xjt_119, xjt_126, xjt_159, xjt_576, xjt_999, xjt_9999, xjt_65536, xjt_999999, xt64, xt_n, not_true_eq_false, not_false_eq_true, Classical.not_not] at c_7
    all_goals omega
  · skip
    refine xw_go xb_74 3 (f1 := (13, [.ref 0, .int (nI n), .int (nI 0), .float 0], [.int 1, .int 0, .int (nI 0)])) (h1 := (xS b, I, L, xP b)) rfl trivial ?_
    refine xw_call xb_74 rfl rfl rfl rfl rfl (Or.inl rfl) c_within ?_
    rintro _ _ ⟨rfl, rfl⟩
    refine xw_at (f' := (16, [.ref 0, .int (nI n), .int (nI 0), .float 0], [.int (nI (xB (decide ((0 : Int32).toInt ≤ (nI 0).toInt ∧ (nI 0).toInt ≤ (1 : Int32).toInt))))])) (h' := (xS b, I, L, xP b)) rfl rfl ?_
    refine xw_go xb_74 1 (f1 := (if ¬ (nI (xB (decide ((0 : Int32).toInt ≤ (nI 0).toInt ∧ (nI 0).toInt ≤ (1 : Int32).toInt)))) = 0 then 21 else 19, [.ref 0, .int (nI n), .int (nI 0), .float 0], [])) (h1 := (xS b, I, L, xP b)) rfl trivial ?_
    refine xw_if (fun c_16 => ?_) (fun c_16 => ?_)
    · skip
      refine xw_go xb_74 6 (f1 := (33, [.ref 0, .int (nI n), .int (nI 0), .float 0], [.int (nI n), .int (I 1 6), .ref 24])) (h1 := (xS b, I, L, xP b)) rfl ⟨rfl, rfl, rfl, trivial⟩ ?_
      refine xw_call xb_74 rfl rfl rfl rfl rfl (Or.inr ⟨_, _, rfl, rfl⟩) (c_wetBySet (I := I) hP.1 hO (o := N 3) (n := n) (xOn32 hO) (by omega) hN3 rfl) ?_
      rintro _ _ ⟨rfl, I1, rfl, g1, _, _, g2⟩
      refine xw_at (f' := (36, [.ref 0, .int (nI n), .int (nI 0), .float 0], [.ref 25])) (h' := (xS b, I1, L, xP b)) rfl rfl ?_
      refine xw_go xb_74 3 (f1 := (if ¬ (nI 0) = 0 then 52 else 41, [.ref 0, .int (nI n), .int (nI 0), .ref 25], [])) (h1 := (xS b, I1, L, xP b)) rfl trivial ?_
      refine xw_if (fun c_38 => ?_) (fun c_38 => ?_)
      · skip
        exfalso
        try simp only [xB_dec, Classical.not_not] at c_7 c_16 c_38
        try simp (disch := omega) only [xt_eq, xt_lt, xt_le, xkt_0, xkt_1, xkt_2, xkt_3, xkt_4, xkt_5, xkt_6, xkt_7, xkt_8, xkt_9, xkt_10, xkt_11, xkt_12, xkt_13, xkt_14, xkt_16, xkt_20, xkt_24, xkt_31, xkt_32, xkt_40, xkt_44, xkt_47, xkt_48, xkt_57, xkt_59, xkt_60, xkt_63, xkt_64, xkt_65, xkt_72, xkt_95, xkt_99, xkt_100, xkt_101, xkt_103, xkt_110, xkt_112, xkt_113, xkt_114, xkt_119, xkt_126, xkt_159, xkt_576, xkt_999, xkt_9999, xkt_65536, xkt_999999, xkt_m1, xkt_m2, xkt_m3, xkt_m4, xkt_m11, xkt_m12, xkt_m13, xkt_m14, xkt_m20, xjt_0, xjt_1, xjt_2, xjt_3, xjt_4, xjt_5, xjt_6, xjt_7, xjt_8, xjt_9, xjt_10, xjt_11, xjt_12, xjt_13, xjt_14, xjt_16, xjt_20, xjt_24, xjt_31, xjt_32, xjt_40, xjt_44, xjt_47, xjt_48, xjt_57, xjt_59, xjt_60, xjt_63, xjt_64, xjt_65, xjt_72, xjt_95, xjt_99, xjt_100, xjt_101, xjt_103, xjt_110, xjt_112, xjt_113, xjt_114, xjt_119, xjt_126, xjt_159, xjt_576, xjt_999, xjt_9999, xjt_65536, xjt_999999, xt64, xt_n, not_true_eq_false, not_false_eq_true, Classical.not_not] at c_7 c_16 c_38
        all_goals omega
      · skip
        refine xw_go xb_74 3 (f1 := (46, [.ref 0, .int (nI n), .int (nI 0), .ref 25], [.ref 25, .ref 1])) (h1 := (xS b, I1, L, xP b)) rfl ⟨rfl, trivial⟩ ?_
        refine xw_call xb_74 rfl rfl rfl rfl rfl (Or.inr ⟨_, _, rfl, rfl⟩) (c_wrongIn (I := I1) (R := N 0) (C := N 1) (xFF_N g1 (by omega) hP.1).1.1 (xFF_N g1 (by omega) hP.1).1.2.1 (by omega) (by omega) (so := fun c => N (31 + c)) (wt := fun c => xgoN N (xfa N (N 3) (N 5)) n (95 + c)) (xFF_N g1 (by omega) hP.1).2.1 hO.2.1 (w := 25) rfl g2 (fun c hc => xgoN_w2 hc) (xFF_N g1 (by omega) hP.1).1.2.2.2.2.2.2.2.1 (by omega) (xFF_N g1 (by omega) hP.1).1.2.2.2.2.2.2.2.2.1 (by omega)) ?_
        rintro _ _ ⟨rfl, rfl⟩
        refine xw_at (f' := (49, [.ref 0, .int (nI n), .int (nI 0), .ref 25], [.int (nI (xcnt (fun c => xs_wrong (N (31 + c)) (xgoN N (xfa N (N 3) (N 5)) n (95 + c)) (N 7) (N 8)) (N 0 * N 1)))])) (h' := (xS b, I1, L, xP b)) rfl rfl ?_
        refine xw_go xb_74 1 (f1 := (60, [.ref 0, .int (nI n), .int (nI 0), .ref 25], [.int (nI (xcnt (fun c => xs_wrong (N (31 + c)) (xgoN N (xfa N (N 3) (N 5)) n (95 + c)) (N 7) (N 8)) (N 0 * N 1)))])) (h1 := (xS b, I1, L, xP b)) rfl trivial ?_
        refine xw_ret xb_74 rfl rfl trivial ?_
        rw [xwc_go hO]
        exact ⟨rfl, I1, rfl, xFF_P g1, xFF_L g1 (by omega) hP⟩
    · skip
      exfalso
      try simp only [xB_dec, Classical.not_not] at c_7 c_16
      try simp (disch := omega) only [xt_eq, xt_lt, xt_le, xkt_0, xkt_1, xkt_2, xkt_3, xkt_4, xkt_5, xkt_6, xkt_7, xkt_8, xkt_9, xkt_10, xkt_11, xkt_12, xkt_13, xkt_14, xkt_16, xkt_20, xkt_24, xkt_31, xkt_32, xkt_40, xkt_44, xkt_47, xkt_48, xkt_57, xkt_59, xkt_60, xkt_63, xkt_64, xkt_65, xkt_72, xkt_95, xkt_99, xkt_100, xkt_101, xkt_103, xkt_110, xkt_112, xkt_113, xkt_114, xkt_119, xkt_126, xkt_159, xkt_576, xkt_999, xkt_9999, xkt_65536, xkt_999999, xkt_m1, xkt_m2, xkt_m3, xkt_m4, xkt_m11, xkt_m12, xkt_m13, xkt_m14, xkt_m20, xjt_0, xjt_1, xjt_2, xjt_3, xjt_4, xjt_5, xjt_6, xjt_7, xjt_8, xjt_9, xjt_10, xjt_11, xjt_12, xjt_13, xjt_14, xjt_16, xjt_20, xjt_24, xjt_31, xjt_32, xjt_40, xjt_44, xjt_47, xjt_48, xjt_57, xjt_59, xjt_60, xjt_63, xjt_64, xjt_65, xjt_72, xjt_95, xjt_99, xjt_100, xjt_101, xjt_103, xjt_110, xjt_112, xjt_113, xjt_114, xjt_119, xjt_126, xjt_159, xjt_576, xjt_999, xjt_9999, xjt_65536, xjt_999999, xt64, xt_n, not_true_eq_false, not_false_eq_true, Classical.not_not] at c_7 c_16
      all_goals omega

set_option maxHeartbeats 4000000 in
theorem m_wrongs10 {d : Nat} {b : Bool} {I : Nat → Nat → Int32} {L : Nat → Nat → Int64} {N : Nat → Nat} {u : Nat} {U : Nat → Nat → Nat} (hM : xML N u U I) (hK : xUK N u U) {n : Nat} (hn : n ≤ 99) {x : Int32} (e_x : x = nI n) {y : Int32} (e_y : y = nI 0) : xm_Z (d + 6) 153 [.ref 60, .int x, .int y] (xS b, I, L, xP b) (fun rz hz => xQM b I L (nI (xwc (xgoN N (xfa N (N 3) (N 5)) n))) N u U rz hz) := by
  subst e_x
  subst e_y
  have hO := hK.1
  have hb := hK.1.1
  have c64 : N 0 * N 1 ≤ 64 := xce_le hO
  have c4 : 4 ≤ N 0 * N 1 := xce_ge hO
  have h4 := hK.2.1
  refine xw_S xb_153 (l := [.ref 60, .int (nI n), .int (nI 0), .float 0]) (Nat.le_of_ble_eq_true rfl) rfl ?_
  refine xw_go xb_153 4 (f1 := (6, [.ref 60, .int (nI n), .int (nI 0), .float 0], [.long 99, .long 0, .long ((nI n).toInt64)])) (h1 := (xS b, I, L, xP b)) rfl trivial ?_
  refine xw_call xb_153 rfl rfl rfl rfl rfl (Or.inl rfl) m_in ?_
  rintro _ _ ⟨rfl, rfl⟩
  refine xw_at (f' := (9, [.ref 60, .int (nI n), .int (nI 0), .float 0], [.int (nI (xB (decide ((0 : Int64).toInt ≤ (nI n).toInt64.toInt ∧ (nI n).toInt64.toInt ≤ (99 : Int64).toInt))))])) (h' := (xS b, I, L, xP b)) rfl rfl ?_
  refine xw_go xb_153 1 (f1 := (if (nI (xB (decide ((0 : Int64).toInt ≤ (nI n).toInt64.toInt ∧ (nI n).toInt64.toInt ≤ (99 : Int64).toInt)))) = 0 then 22 else 12, [.ref 60, .int (nI n), .int (nI 0), .float 0], [])) (h1 := (xS b, I, L, xP b)) rfl trivial ?_
  refine xw_if (fun c_9 => ?_) (fun c_9 => ?_)
  · skip
    exfalso
    try simp only [xB_dec, Classical.not_not] at c_9
    try simp (disch := omega) only [xt_eq, xt_lt, xt_le, xkt_0, xkt_1, xkt_2, xkt_3, xkt_4, xkt_5, xkt_6, xkt_7, xkt_8, xkt_9, xkt_10, xkt_11, xkt_12, xkt_13, xkt_14, xkt_16, xkt_20, xkt_24, xkt_31, xkt_32, xkt_40, xkt_44, xkt_47, xkt_48, xkt_57, xkt_59, xkt_60, xkt_63, xkt_64, xkt_65, xkt_72, xkt_95, xkt_99, xkt_100, xkt_101, xkt_103, xkt_110, xkt_112, xkt_113, xkt_114, xkt_119, xkt_126, xkt_159, xkt_576, xkt_999, xkt_9999, xkt_65536, xkt_999999, xkt_m1, xkt_m2, xkt_m3, xkt_m4, xkt_m11, xkt_m12, xkt_m13, xkt_m14, xkt_m20, xjt_0, xjt_1, xjt_2, xjt_3, xjt_4, xjt_5, xjt_6, xjt_7, xjt_8, xjt_9, xjt_10, xjt_11, xjt_12, xjt_13, xjt_14, xjt_16, xjt_20, xjt_24, xjt_31, xjt_32, xjt_40, xjt_44, xjt_47, xjt_48, xjt_57, xjt_59, xjt_60, xjt_63, xjt_64, xjt_65, xjt_72, xjt_95, xjt_99, xjt_100, xjt_101, xjt_103, xjt_110, xjt_112, xjt_113, xjt_114, xjt_119, xjt_126, xjt_159, xjt_576, xjt_999, xjt_9999, xjt_65536, xjt_999999, xt64, xt_n, not_true_eq_false, not_false_eq_true, Classical.not_not] at c_9
    all_goals omega
  · skip
    refine xw_go xb_153 4 (f1 := (16, [.ref 60, .int (nI n), .int (nI 0), .float 0], [.long 1, .long 0, .long ((nI 0).toInt64)])) (h1 := (xS b, I, L, xP b)) rfl trivial ?_
    refine xw_call xb_153 rfl rfl rfl rfl rfl (Or.inl rfl) m_in ?_
    rintro _ _ ⟨rfl, rfl⟩
    refine xw_at (f' := (19, [.ref 60, .int (nI n), .int (nI 0), .float 0], [.int (nI (xB (decide ((0 : Int64).toInt ≤ (nI 0).toInt64.toInt ∧ (nI 0).toInt64.toInt ≤ (1 : Int64).toInt))))])) (h' := (xS b, I, L, xP b)) rfl rfl ?_
    refine xw_go xb_153 1 (f1 := (if ¬ (nI (xB (decide ((0 : Int64).toInt ≤ (nI 0).toInt64.toInt ∧ (nI 0).toInt64.toInt ≤ (1 : Int64).toInt)))) = 0 then 24 else 22, [.ref 60, .int (nI n), .int (nI 0), .float 0], [])) (h1 := (xS b, I, L, xP b)) rfl trivial ?_
    refine xw_if (fun c_19 => ?_) (fun c_19 => ?_)
    · skip
      refine xw_go xb_153 1 (f1 := (25, [.ref 60, .int (nI n), .int (nI 0), .float 0], [.ref 60])) (h1 := (xS b, I, L, xP b)) rfl trivial ?_
      refine xw_call xb_153 rfl rfl rfl rfl rfl (Or.inr ⟨_, _, rfl, rfl⟩) (m_asides (I := I)) ?_
      rintro _ _ ⟨rfl, rfl⟩
      refine xw_at (f' := (28, [.ref 60, .int (nI n), .int (nI 0), .float 0], [])) (h' := (xS b, va_up I 68 (xfil 159 (I 61) (I 68)), L, xP b)) rfl rfl ?_
      refine xw_go xb_153 9 (f1 := (41, [.ref 60, .int (nI n), .int (nI 0), .float 0], [.int ((va_up I 68 (xfil 159 (I 61) (I 68))) 61 (5 : Int32).toNatClampNeg), .int ((va_up I 68 (xfil 159 (I 61) (I 68))) 61 (3 : Int32).toNatClampNeg), .ref 60])) (h1 := (xS b, va_up I 68 (xfil 159 (I 61) (I 68)), L, xP b)) rfl ⟨rfl, (xn_ar (n := 3) (N := 159) rfl (by decide) (by decide)), rfl, (xn_ar (n := 5) (N := 159) rfl (by decide) (by decide)), trivial⟩ ?_
      refine xw_call xb_153 rfl rfl rfl rfl rfl (Or.inr ⟨_, _, rfl, rfl⟩) (m_rains (I := (va_up I 68 (xfil 159 (I 61) (I 68)))) (N := N) (fun k hk => hM.1 k hk) hO (o := N 3) (wi := N 5) (xOn32 hO) (by omega) (hM.1 3 (by decide)) (hM.1 5 (by decide))) ?_
      rintro _ _ ⟨rfl, X, rfl, hX⟩
      refine xw_at (f' := (44, [.ref 60, .int (nI n), .int (nI 0), .float 0], [])) (h' := (xS b, va_up (va_up I 68 (xfil 159 (I 61) (I 68))) 62 X, L, xP b)) rfl rfl ?_
      refine xw_go xb_153 2 (f1 := (46, [.ref 60, .int (nI n), .int (nI 0), .float 0], [.int (nI n), .ref 60])) (h1 := (xS b, va_up (va_up I 68 (xfil 159 (I 61) (I 68))) 62 X, L, xP b)) rfl trivial ?_
      refine xw_call xb_153 rfl rfl rfl rfl rfl (Or.inr ⟨_, _, rfl, rfl⟩) (m_goesOn (I := (va_up (va_up I 68 (xfil 159 (I 61) (I 68))) 62 X)) (N := N) (fun k hk => hM.1 k hk) hO (fv := (xfa N (N 3) (N 5))) (fun j hj => hX j hj) (fun j hj => by have := xfa_le hO (N 3) (N 5) j; omega) (n := n) (by omega) rfl) ?_
      rintro _ _ ⟨rfl, X1, Y1, rfl, hY⟩
      refine xw_at (f' := (49, [.ref 60, .int (nI n), .int (nI 0), .float 0], [])) (h' := (xS b, va_up (va_up (va_up (va_up I 68 (xfil 159 (I 61) (I 68))) 62 X) 63 X1) 61 Y1, L, xP b)) rfl rfl ?_
      refine xw_go xb_153 2 (f1 := (if ¬ (nI 0) = 0 then 60 else 53, [.ref 60, .int (nI n), .int (nI 0), .float 0], [])) (h1 := (xS b, va_up (va_up (va_up (va_up I 68 (xfil 159 (I 61) (I 68))) 62 X) 63 X1) 61 Y1, L, xP b)) rfl trivial ?_
      refine xw_if (fun c_50 => ?_) (fun c_50 => ?_)
      · skip
        exfalso
        try simp only [xB_dec, Classical.not_not] at c_9 c_19 c_50
        try simp (disch := omega) only [xt_eq, xt_lt, xt_le, xkt_0, xkt_1, xkt_2, xkt_3, xkt_4, xkt_5, xkt_6, xkt_7, xkt_8, xkt_9, xkt_10, xkt_11, xkt_12, xkt_13, xkt_14, xkt_16, xkt_20, xkt_24, xkt_31, xkt_32, xkt_40, xkt_44, xkt_47, xkt_48, xkt_57, xkt_59, xkt_60, xkt_63, xkt_64, xkt_65, xkt_72, xkt_95, xkt_99, xkt_100, xkt_101, xkt_103, xkt_110, xkt_112, xkt_113, xkt_114, xkt_119, xkt_126, xkt_159, xkt_576, xkt_999, xkt_9999, xkt_65536, xkt_999999, xkt_m1, xkt_m2, xkt_m3, xkt_m4, xkt_m11, xkt_m12, xkt_m13, xkt_m14, xkt_m20, xjt_0, xjt_1, xjt_2, xjt_3, xjt_4, xjt_5, xjt_6, xjt_7, xjt_8, xjt_9, xjt_10, xjt_11, xjt_12, xjt_13, xjt_14, xjt_16, xjt_20, xjt_24, xjt_31, xjt_32, xjt_40, xjt_44, xjt_47, xjt_48, xjt_57, xjt_59, xjt_60, xjt_63, xjt_64, xjt_65, xjt_72, xjt_95, xjt_99, xjt_100, xjt_101, xjt_103, xjt_110, xjt_112, xjt_113, xjt_114, xjt_119, xjt_126, xjt_159, xjt_576, xjt_999, xjt_9999, xjt_65536, xjt_999999, xt64, xt_n, not_true_eq_false, not_false_eq_true, Classical.not_not] at c_9 c_19 c_50
        all_goals omega
      · skip
        refine xw_go xb_153 1 (f1 := (54, [.ref 60, .int (nI n), .int (nI 0), .float 0], [.ref 60])) (h1 := (xS b, va_up (va_up (va_up (va_up I 68 (xfil 159 (I 61) (I 68))) 62 X) 63 X1) 61 Y1, L, xP b)) rfl trivial ?_
        refine xw_call xb_153 rfl rfl rfl rfl rfl (Or.inr ⟨_, _, rfl, rfl⟩) (m_wrongOnes (I := (va_up (va_up (va_up (va_up I 68 (xfil 159 (I 61) (I 68))) 62 X) 63 X1) 61 Y1)) (N := xgoN N (xfa N (N 3) (N 5)) n) (fun k hk => hY k hk) (xgoN_ok hO (xfa N (N 3) (N 5)) (n := n) (by omega))) ?_
        rintro _ _ ⟨rfl, rfl⟩
        refine xw_at (f' := (57, [.ref 60, .int (nI n), .int (nI 0), .float 0], [.int (nI (xwc (xgoN N (xfa N (N 3) (N 5)) n)))])) (h' := (xS b, va_up (va_up (va_up (va_up I 68 (xfil 159 (I 61) (I 68))) 62 X) 63 X1) 61 Y1, L, xP b)) rfl rfl ?_
        refine xw_go xb_153 3 (f1 := (66, [.ref 60, .int (nI n), .int (nI 0), .int (nI (xwc (xgoN N (xfa N (N 3) (N 5)) n)))], [.ref 60])) (h1 := (xS b, va_up (va_up (va_up (va_up I 68 (xfil 159 (I 61) (I 68))) 62 X) 63 X1) 61 Y1, L, xP b)) rfl trivial ?_
        refine xw_call xb_153 rfl rfl rfl rfl rfl (Or.inr ⟨_, _, rfl, rfl⟩) (m_backs (I := (va_up (va_up (va_up (va_up I 68 (xfil 159 (I 61) (I 68))) 62 X) 63 X1) 61 Y1))) ?_
        rintro _ _ ⟨rfl, rfl⟩
        refine xw_at (f' := (69, [.ref 60, .int (nI n), .int (nI 0), .int (nI (xwc (xgoN N (xfa N (N 3) (N 5)) n)))], [])) (h' := (xS b, va_up (va_up (va_up (va_up (va_up I 68 (xfil 159 (I 61) (I 68))) 62 X) 63 X1) 61 Y1) 61 (xfil 159 ((va_up (va_up (va_up (va_up I 68 (xfil 159 (I 61) (I 68))) 62 X) 63 X1) 61 Y1) 68) ((va_up (va_up (va_up (va_up I 68 (xfil 159 (I 61) (I 68))) 62 X) 63 X1) 61 Y1) 61)), L, xP b)) rfl rfl ?_
        refine xw_go xb_153 1 (f1 := (70, [.ref 60, .int (nI n), .int (nI 0), .int (nI (xwc (xgoN N (xfa N (N 3) (N 5)) n)))], [.int (nI (xwc (xgoN N (xfa N (N 3) (N 5)) n)))])) (h1 := (xS b, va_up (va_up (va_up (va_up (va_up I 68 (xfil 159 (I 61) (I 68))) 62 X) 63 X1) 61 Y1) 61 (xfil 159 ((va_up (va_up (va_up (va_up I 68 (xfil 159 (I 61) (I 68))) 62 X) 63 X1) 61 Y1) 68) ((va_up (va_up (va_up (va_up I 68 (xfil 159 (I 61) (I 68))) 62 X) 63 X1) 61 Y1) 61)), L, xP b)) rfl trivial ?_
        refine xw_ret xb_153 rfl rfl trivial ?_
        refine ⟨rfl, _, rfl, xMF_v (xMF_v (xMF_v (xMF_v (xMF_v (xMF_r I) (by decide)) (by decide)) (by decide)) (by decide)) (by decide), xML_N hM (fun k hk => ?_) rfl rfl⟩
        rw [show ∀ (f : Nat → Nat → Int32) (g : Nat → Int32), va_up f 61 g 61 = g from fun f g => by simp [va_up]]
        unfold xfil
        rw [if_pos hk, xm_vu_o (by decide), xm_vu_o (by decide), xm_vu_o (by decide)]
        rw [show ∀ (f : Nat → Nat → Int32) (g : Nat → Int32), va_up f 68 g 68 = g from fun f g => by simp [va_up]]
        rw [if_pos hk]
        exact hM.1 k hk
    · skip
      exfalso
      try simp only [xB_dec, Classical.not_not] at c_9 c_19
      try simp (disch := omega) only [xt_eq, xt_lt, xt_le, xkt_0, xkt_1, xkt_2, xkt_3, xkt_4, xkt_5, xkt_6, xkt_7, xkt_8, xkt_9, xkt_10, xkt_11, xkt_12, xkt_13, xkt_14, xkt_16, xkt_20, xkt_24, xkt_31, xkt_32, xkt_40, xkt_44, xkt_47, xkt_48, xkt_57, xkt_59, xkt_60, xkt_63, xkt_64, xkt_65, xkt_72, xkt_95, xkt_99, xkt_100, xkt_101, xkt_103, xkt_110, xkt_112, xkt_113, xkt_114, xkt_119, xkt_126, xkt_159, xkt_576, xkt_999, xkt_9999, xkt_65536, xkt_999999, xkt_m1, xkt_m2, xkt_m3, xkt_m4, xkt_m11, xkt_m12, xkt_m13, xkt_m14, xkt_m20, xjt_0, xjt_1, xjt_2, xjt_3, xjt_4, xjt_5, xjt_6, xjt_7, xjt_8, xjt_9, xjt_10, xjt_11, xjt_12, xjt_13, xjt_14, xjt_16, xjt_20, xjt_24, xjt_31, xjt_32, xjt_40, xjt_44, xjt_47, xjt_48, xjt_57, xjt_59, xjt_60, xjt_63, xjt_64, xjt_65, xjt_72, xjt_95, xjt_99, xjt_100, xjt_101, xjt_103, xjt_110, xjt_112, xjt_113, xjt_114, xjt_119, xjt_126, xjt_159, xjt_576, xjt_999, xjt_9999, xjt_65536, xjt_999999, xt64, xt_n, not_true_eq_false, not_false_eq_true, Classical.not_not] at c_9 c_19
      all_goals omega

theorem c_wrongs11 {d : Nat} {b : Bool} {I : Nat → Nat → Int32} {L : Nat → Nat → Int64} {N : Nat → Nat} {u : Nat} {U : Nat → Nat → Nat} (hP : xPL N u U 1 I) (hK : xUK N u U) {n : Nat} (hn : n ≤ 99) {x : Int32} (e_x : x = nI n) {y : Int32} (e_y : y = nI 1) : xm_Z (d + 6) 74 [.ref 0, .int x, .int y] (xS b, I, L, xP b) (fun rz hz => xQC b I L (nI (xdc (xgoN N (xfa N (N 3) (N 5)) n))) N u U rz hz) := by
  subst e_x
  subst e_y
  have hO := hK.1
  have hb := hK.1.1
  have c64 : N 0 * N 1 ≤ 64 := xce_le hO
  have c4 : 4 ≤ N 0 * N 1 := xce_ge hO
  obtain ⟨⟨hN0, hN1, hN2, hN3, hN4, hN5, hN6, hN7, hN8, hN9, hN10⟩, hNs, hNw, hNp⟩ := hP.1
  refine xw_S xb_74 (l := [.ref 0, .int (nI n), .int (nI 1), .float 0]) (Nat.le_of_ble_eq_true rfl) rfl ?_
  refine xw_go xb_74 3 (f1 := (4, [.ref 0, .int (nI n), .int (nI 1), .float 0], [.int 99, .int 0, .int (nI n)])) (h1 := (xS b, I, L, xP b)) rfl trivial ?_
  refine xw_call xb_74 rfl rfl rfl rfl rfl (Or.inl rfl) c_within ?_
  rintro _ _ ⟨rfl, rfl⟩
  refine xw_at (f' := (7, [.ref 0, .int (nI n), .int (nI 1), .float 0], [.int (nI (xB (decide ((0 : Int32).toInt ≤ (nI n).toInt ∧ (nI n).toInt ≤ (99 : Int32).toInt))))])) (h' := (xS b, I, L, xP b)) rfl rfl ?_
  refine xw_go xb_74 1 (f1 := (if (nI (xB (decide ((0 : Int32).toInt ≤ (nI n).toInt ∧ (nI n).toInt ≤ (99 : Int32).toInt)))) = 0 then 19 else 10, [.ref 0, .int (nI n), .int (nI 1), .float 0], [])) (h1 := (xS b, I, L, xP b)) rfl trivial ?_
  refine xw_if (fun c_7 => ?_) (fun c_7 => ?_)
  · skip
    exfalso
    try simp only [xB_dec, Classical.not_not] at c_7
    try simp (disch := omega) only [xt_eq, xt_lt, xt_le, xkt_0, xkt_1, xkt_2, xkt_3, xkt_4, xkt_5, xkt_6, xkt_7, xkt_8, xkt_9, xkt_10, xkt_11, xkt_12, xkt_13, xkt_14, xkt_16, xkt_20, xkt_24, xkt_31, xkt_32, xkt_40, xkt_44, xkt_47, xkt_48, xkt_57, xkt_59, xkt_60, xkt_63, xkt_64, xkt_65, xkt_72, xkt_95, xkt_99, xkt_100, xkt_101, xkt_103, xkt_110, xkt_112, xkt_113, xkt_114, xkt_119, xkt_126, xkt_159, xkt_576, xkt_999, xkt_9999, xkt_65536, xkt_999999, xkt_m1, xkt_m2, xkt_m3, xkt_m4, xkt_m11, xkt_m12, xkt_m13, xkt_m14, xkt_m20, xjt_0, xjt_1, xjt_2, xjt_3, xjt_4, xjt_5, xjt_6, xjt_7, xjt_8, xjt_9, xjt_10, xjt_11, xjt_12, xjt_13, xjt_14, xjt_16, xjt_20, xjt_24, xjt_31, xjt_32, xjt_40, xjt_44, xjt_47, xjt_48, xjt_57, xjt_59, xjt_60, xjt_63, xjt_64, xjt_65, xjt_72, xjt_95, xjt_99, xjt_100, xjt_101, xjt_103, xjt_110, xjt_112, xjt_113, xjt_114, xjt_119, xjt_126, xjt_159, xjt_576, xjt_999, xjt_9999, xjt_65536, xjt_999999, xt64, xt_n, not_true_eq_false, not_false_eq_true, Classical.not_not] at c_7
    all_goals omega
  · skip
    refine xw_go xb_74 3 (f1 := (13, [.ref 0, .int (nI n), .int (nI 1), .float 0], [.int 1, .int 0, .int (nI 1)])) (h1 := (xS b, I, L, xP b)) rfl trivial ?_
    refine xw_call xb_74 rfl rfl rfl rfl rfl (Or.inl rfl) c_within ?_
    rintro _ _ ⟨rfl, rfl⟩
    refine xw_at (f' := (16, [.ref 0, .int (nI n), .int (nI 1), .float 0], [.int (nI (xB (decide ((0 : Int32).toInt ≤ (nI 1).toInt ∧ (nI 1).toInt ≤ (1 : Int32).toInt))))])) (h' := (xS b, I, L, xP b)) rfl rfl ?_
    refine xw_go xb_74 1 (f1 := (if ¬ (nI (xB (decide ((0 : Int32).toInt ≤ (nI 1).toInt ∧ (nI 1).toInt ≤ (1 : Int32).toInt)))) = 0 then 21 else 19, [.ref 0, .int (nI n), .int (nI 1), .float 0], [])) (h1 := (xS b, I, L, xP b)) rfl trivial ?_
    refine xw_if (fun c_16 => ?_) (fun c_16 => ?_)
    · skip
      refine xw_go xb_74 6 (f1 := (33, [.ref 0, .int (nI n), .int (nI 1), .float 0], [.int (nI n), .int (I 1 6), .ref 24])) (h1 := (xS b, I, L, xP b)) rfl ⟨rfl, rfl, rfl, trivial⟩ ?_
      refine xw_call xb_74 rfl rfl rfl rfl rfl (Or.inr ⟨_, _, rfl, rfl⟩) (c_wetBySet (I := I) hP.1 hO (o := N 3) (n := n) (xOn32 hO) (by omega) hN3 rfl) ?_
      rintro _ _ ⟨rfl, I1, rfl, g1, _, _, g2⟩
      refine xw_at (f' := (36, [.ref 0, .int (nI n), .int (nI 1), .float 0], [.ref 25])) (h' := (xS b, I1, L, xP b)) rfl rfl ?_
      refine xw_go xb_74 3 (f1 := (if ¬ (nI 1) = 0 then 52 else 41, [.ref 0, .int (nI n), .int (nI 1), .ref 25], [])) (h1 := (xS b, I1, L, xP b)) rfl trivial ?_
      refine xw_if (fun c_38 => ?_) (fun c_38 => ?_)
      · skip
        refine xw_go xb_74 3 (f1 := (57, [.ref 0, .int (nI n), .int (nI 1), .ref 25], [.ref 25, .ref 1])) (h1 := (xS b, I1, L, xP b)) rfl ⟨rfl, trivial⟩ ?_
        refine xw_call xb_74 rfl rfl rfl rfl rfl (Or.inr ⟨_, _, rfl, rfl⟩) (c_dryIn (I := I1) (R := N 0) (C := N 1) (xFF_N g1 (by omega) hP.1).1.1 (xFF_N g1 (by omega) hP.1).1.2.1 (by omega) (by omega) (so := fun c => N (31 + c)) (wt := fun c => xgoN N (xfa N (N 3) (N 5)) n (95 + c)) (xFF_N g1 (by omega) hP.1).2.1 hO.2.1 (w := 25) rfl g2 (fun c hc => xgoN_w2 hc) (xFF_N g1 (by omega) hP.1).1.2.2.2.2.2.2.2.1 (by omega)) ?_
        rintro _ _ ⟨rfl, rfl⟩
        refine xw_at (f' := (60, [.ref 0, .int (nI n), .int (nI 1), .ref 25], [.int (nI (xcnt (fun c => xs_dry (N (31 + c)) (xgoN N (xfa N (N 3) (N 5)) n (95 + c)) (N 7)) (N 0 * N 1)))])) (h' := (xS b, I1, L, xP b)) rfl rfl ?_
        refine xw_ret xb_74 rfl rfl trivial ?_
        rw [xdc_go hO]
        exact ⟨rfl, I1, rfl, xFF_P g1, xFF_L g1 (by omega) hP⟩
      · skip
        exfalso
        try simp only [xB_dec, Classical.not_not] at c_7 c_16 c_38
        try simp (disch := omega) only [xt_eq, xt_lt, xt_le, xkt_0, xkt_1, xkt_2, xkt_3, xkt_4, xkt_5, xkt_6, xkt_7, xkt_8, xkt_9, xkt_10, xkt_11, xkt_12, xkt_13, xkt_14, xkt_16, xkt_20, xkt_24, xkt_31, xkt_32, xkt_40, xkt_44, xkt_47, xkt_48, xkt_57, xkt_59, xkt_60, xkt_63, xkt_64, xkt_65, xkt_72, xkt_95, xkt_99, xkt_100, xkt_101, xkt_103, xkt_110, xkt_112, xkt_113, xkt_114, xkt_119, xkt_126, xkt_159, xkt_576, xkt_999, xkt_9999, xkt_65536, xkt_999999, xkt_m1, xkt_m2, xkt_m3, xkt_m4, xkt_m11, xkt_m12, xkt_m13, xkt_m14, xkt_m20, xjt_0, xjt_1, xjt_2, xjt_3, xjt_4, xjt_5, xjt_6, xjt_7, xjt_8, xjt_9, xjt_10, xjt_11, xjt_12, xjt_13, xjt_14, xjt_16, xjt_20, xjt_24, xjt_31, xjt_32, xjt_40, xjt_44, xjt_47, xjt_48, xjt_57, xjt_59, xjt_60, xjt_63, xjt_64, xjt_65, xjt_72, xjt_95, xjt_99, xjt_100, xjt_101, xjt_103, xjt_110, xjt_112, xjt_113, xjt_114, xjt_119, xjt_126, xjt_159, xjt_576, xjt_999, xjt_9999, xjt_65536, xjt_999999, xt64, xt_n, not_true_eq_false, not_false_eq_true, Classical.not_not] at c_7 c_16 c_38
        all_goals omega
    · skip
      exfalso
      try simp only [xB_dec, Classical.not_not] at c_7 c_16
      try simp (disch := omega) only [xt_eq, xt_lt, xt_le, xkt_0, xkt_1, xkt_2, xkt_3, xkt_4, xkt_5, xkt_6, xkt_7, xkt_8, xkt_9, xkt_10, xkt_11, xkt_12, xkt_13, xkt_14, xkt_16, xkt_20, xkt_24, xkt_31, xkt_32, xkt_40, xkt_44, xkt_47, xkt_48, xkt_57, xkt_59, xkt_60, xkt_63, xkt_64, xkt_65, xkt_72, xkt_95, xkt_99, xkt_100, xkt_101, xkt_103, xkt_110, xkt_112, xkt_113, xkt_114, xkt_119, xkt_126, xkt_159, xkt_576, xkt_999, xkt_9999, xkt_65536, xkt_999999, xkt_m1, xkt_m2, xkt_m3, xkt_m4, xkt_m11, xkt_m12, xkt_m13, xkt_m14, xkt_m20, xjt_0, xjt_1, xjt_2, xjt_3, xjt_4, xjt_5, xjt_6, xjt_7, xjt_8, xjt_9, xjt_10, xjt_11, xjt_12, xjt_13, xjt_14, xjt_16, xjt_20, xjt_24, xjt_31, xjt_32, xjt_40, xjt_44, xjt_47, xjt_48, xjt_57, xjt_59, xjt_60, xjt_63, xjt_64, xjt_65, xjt_72, xjt_95, xjt_99, xjt_100, xjt_101, xjt_103, xjt_110, xjt_112, xjt_113, xjt_114, xjt_119, xjt_126, xjt_159, xjt_576, xjt_999, xjt_9999, xjt_65536, xjt_999999, xt64, xt_n, not_true_eq_false, not_false_eq_true, Classical.not_not] at c_7 c_16
      all_goals omega

set_option maxHeartbeats 4000000 in
theorem m_wrongs11 {d : Nat} {b : Bool} {I : Nat → Nat → Int32} {L : Nat → Nat → Int64} {N : Nat → Nat} {u : Nat} {U : Nat → Nat → Nat} (hM : xML N u U I) (hK : xUK N u U) {n : Nat} (hn : n ≤ 99) {x : Int32} (e_x : x = nI n) {y : Int32} (e_y : y = nI 1) : xm_Z (d + 6) 153 [.ref 60, .int x, .int y] (xS b, I, L, xP b) (fun rz hz => xQM b I L (nI (xdc (xgoN N (xfa N (N 3) (N 5)) n))) N u U rz hz) := by
  subst e_x
  subst e_y
  have hO := hK.1
  have hb := hK.1.1
  have c64 : N 0 * N 1 ≤ 64 := xce_le hO
  have c4 : 4 ≤ N 0 * N 1 := xce_ge hO
  have h4 := hK.2.1
  refine xw_S xb_153 (l := [.ref 60, .int (nI n), .int (nI 1), .float 0]) (Nat.le_of_ble_eq_true rfl) rfl ?_
  refine xw_go xb_153 4 (f1 := (6, [.ref 60, .int (nI n), .int (nI 1), .float 0], [.long 99, .long 0, .long ((nI n).toInt64)])) (h1 := (xS b, I, L, xP b)) rfl trivial ?_
  refine xw_call xb_153 rfl rfl rfl rfl rfl (Or.inl rfl) m_in ?_
  rintro _ _ ⟨rfl, rfl⟩
  refine xw_at (f' := (9, [.ref 60, .int (nI n), .int (nI 1), .float 0], [.int (nI (xB (decide ((0 : Int64).toInt ≤ (nI n).toInt64.toInt ∧ (nI n).toInt64.toInt ≤ (99 : Int64).toInt))))])) (h' := (xS b, I, L, xP b)) rfl rfl ?_
  refine xw_go xb_153 1 (f1 := (if (nI (xB (decide ((0 : Int64).toInt ≤ (nI n).toInt64.toInt ∧ (nI n).toInt64.toInt ≤ (99 : Int64).toInt)))) = 0 then 22 else 12, [.ref 60, .int (nI n), .int (nI 1), .float 0], [])) (h1 := (xS b, I, L, xP b)) rfl trivial ?_
  refine xw_if (fun c_9 => ?_) (fun c_9 => ?_)
  · skip
    exfalso
    try simp only [xB_dec, Classical.not_not] at c_9
    try simp (disch := omega) only [xt_eq, xt_lt, xt_le, xkt_0, xkt_1, xkt_2, xkt_3, xkt_4, xkt_5, xkt_6, xkt_7, xkt_8, xkt_9, xkt_10, xkt_11, xkt_12, xkt_13, xkt_14, xkt_16, xkt_20, xkt_24, xkt_31, xkt_32, xkt_40, xkt_44, xkt_47, xkt_48, xkt_57, xkt_59, xkt_60, xkt_63, xkt_64, xkt_65, xkt_72, xkt_95, xkt_99, xkt_100, xkt_101, xkt_103, xkt_110, xkt_112, xkt_113, xkt_114, xkt_119, xkt_126, xkt_159, xkt_576, xkt_999, xkt_9999, xkt_65536, xkt_999999, xkt_m1, xkt_m2, xkt_m3, xkt_m4, xkt_m11, xkt_m12, xkt_m13, xkt_m14, xkt_m20, xjt_0, xjt_1, xjt_2, xjt_3, xjt_4, xjt_5, xjt_6, xjt_7, xjt_8, xjt_9, xjt_10, xjt_11, xjt_12, xjt_13, xjt_14, xjt_16, xjt_20, xjt_24, xjt_31, xjt_32, xjt_40, xjt_44, xjt_47, xjt_48, xjt_57, xjt_59, xjt_60, xjt_63, xjt_64, xjt_65, xjt_72, xjt_95, xjt_99, xjt_100, xjt_101, xjt_103, xjt_110, xjt_112, xjt_113, xjt_114, xjt_119, xjt_126, xjt_159, xjt_576, xjt_999, xjt_9999, xjt_65536, xjt_999999, xt64, xt_n, not_true_eq_false, not_false_eq_true, Classical.not_not] at c_9
    all_goals omega
  · skip
    refine xw_go xb_153 4 (f1 := (16, [.ref 60, .int (nI n), .int (nI 1), .float 0], [.long 1, .long 0, .long ((nI 1).toInt64)])) (h1 := (xS b, I, L, xP b)) rfl trivial ?_
    refine xw_call xb_153 rfl rfl rfl rfl rfl (Or.inl rfl) m_in ?_
    rintro _ _ ⟨rfl, rfl⟩
    refine xw_at (f' := (19, [.ref 60, .int (nI n), .int (nI 1), .float 0], [.int (nI (xB (decide ((0 : Int64).toInt ≤ (nI 1).toInt64.toInt ∧ (nI 1).toInt64.toInt ≤ (1 : Int64).toInt))))])) (h' := (xS b, I, L, xP b)) rfl rfl ?_
    refine xw_go xb_153 1 (f1 := (if ¬ (nI (xB (decide ((0 : Int64).toInt ≤ (nI 1).toInt64.toInt ∧ (nI 1).toInt64.toInt ≤ (1 : Int64).toInt)))) = 0 then 24 else 22, [.ref 60, .int (nI n), .int (nI 1), .float 0], [])) (h1 := (xS b, I, L, xP b)) rfl trivial ?_
    refine xw_if (fun c_19 => ?_) (fun c_19 => ?_)
    · skip
      refine xw_go xb_153 1 (f1 := (25, [.ref 60, .int (nI n), .int (nI 1), .float 0], [.ref 60])) (h1 := (xS b, I, L, xP b)) rfl trivial ?_
      refine xw_call xb_153 rfl rfl rfl rfl rfl (Or.inr ⟨_, _, rfl, rfl⟩) (m_asides (I := I)) ?_
      rintro _ _ ⟨rfl, rfl⟩
      refine xw_at (f' := (28, [.ref 60, .int (nI n), .int (nI 1), .float 0], [])) (h' := (xS b, va_up I 68 (xfil 159 (I 61) (I 68)), L, xP b)) rfl rfl ?_
      refine xw_go xb_153 9 (f1 := (41, [.ref 60, .int (nI n), .int (nI 1), .float 0], [.int ((va_up I 68 (xfil 159 (I 61) (I 68))) 61 (5 : Int32).toNatClampNeg), .int ((va_up I 68 (xfil 159 (I 61) (I 68))) 61 (3 : Int32).toNatClampNeg), .ref 60])) (h1 := (xS b, va_up I 68 (xfil 159 (I 61) (I 68)), L, xP b)) rfl ⟨rfl, (xn_ar (n := 3) (N := 159) rfl (by decide) (by decide)), rfl, (xn_ar (n := 5) (N := 159) rfl (by decide) (by decide)), trivial⟩ ?_
      refine xw_call xb_153 rfl rfl rfl rfl rfl (Or.inr ⟨_, _, rfl, rfl⟩) (m_rains (I := (va_up I 68 (xfil 159 (I 61) (I 68)))) (N := N) (fun k hk => hM.1 k hk) hO (o := N 3) (wi := N 5) (xOn32 hO) (by omega) (hM.1 3 (by decide)) (hM.1 5 (by decide))) ?_
      rintro _ _ ⟨rfl, X, rfl, hX⟩
      refine xw_at (f' := (44, [.ref 60, .int (nI n), .int (nI 1), .float 0], [])) (h' := (xS b, va_up (va_up I 68 (xfil 159 (I 61) (I 68))) 62 X, L, xP b)) rfl rfl ?_
      refine xw_go xb_153 2 (f1 := (46, [.ref 60, .int (nI n), .int (nI 1), .float 0], [.int (nI n), .ref 60])) (h1 := (xS b, va_up (va_up I 68 (xfil 159 (I 61) (I 68))) 62 X, L, xP b)) rfl trivial ?_
      refine xw_call xb_153 rfl rfl rfl rfl rfl (Or.inr ⟨_, _, rfl, rfl⟩) (m_goesOn (I := (va_up (va_up I 68 (xfil 159 (I 61) (I 68))) 62 X)) (N := N) (fun k hk => hM.1 k hk) hO (fv := (xfa N (N 3) (N 5))) (fun j hj => hX j hj) (fun j hj => by have := xfa_le hO (N 3) (N 5) j; omega) (n := n) (by omega) rfl) ?_
      rintro _ _ ⟨rfl, X1, Y1, rfl, hY⟩
      refine xw_at (f' := (49, [.ref 60, .int (nI n), .int (nI 1), .float 0], [])) (h' := (xS b, va_up (va_up (va_up (va_up I 68 (xfil 159 (I 61) (I 68))) 62 X) 63 X1) 61 Y1, L, xP b)) rfl rfl ?_
      refine xw_go xb_153 2 (f1 := (if ¬ (nI 1) = 0 then 60 else 53, [.ref 60, .int (nI n), .int (nI 1), .float 0], [])) (h1 := (xS b, va_up (va_up (va_up (va_up I 68 (xfil 159 (I 61) (I 68))) 62 X) 63 X1) 61 Y1, L, xP b)) rfl trivial ?_
      refine xw_if (fun c_50 => ?_) (fun c_50 => ?_)
      · skip
        refine xw_go xb_153 1 (f1 := (61, [.ref 60, .int (nI n), .int (nI 1), .float 0], [.ref 60])) (h1 := (xS b, va_up (va_up (va_up (va_up I 68 (xfil 159 (I 61) (I 68))) 62 X) 63 X1) 61 Y1, L, xP b)) rfl trivial ?_
        refine xw_call xb_153 rfl rfl rfl rfl rfl (Or.inr ⟨_, _, rfl, rfl⟩) (m_dryOnes (I := (va_up (va_up (va_up (va_up I 68 (xfil 159 (I 61) (I 68))) 62 X) 63 X1) 61 Y1)) (N := xgoN N (xfa N (N 3) (N 5)) n) (fun k hk => hY k hk) (xgoN_ok hO (xfa N (N 3) (N 5)) (n := n) (by omega))) ?_
        rintro _ _ ⟨rfl, rfl⟩
        refine xw_at (f' := (64, [.ref 60, .int (nI n), .int (nI 1), .float 0], [.int (nI (xdc (xgoN N (xfa N (N 3) (N 5)) n)))])) (h' := (xS b, va_up (va_up (va_up (va_up I 68 (xfil 159 (I 61) (I 68))) 62 X) 63 X1) 61 Y1, L, xP b)) rfl rfl ?_
        refine xw_go xb_153 2 (f1 := (66, [.ref 60, .int (nI n), .int (nI 1), .int (nI (xdc (xgoN N (xfa N (N 3) (N 5)) n)))], [.ref 60])) (h1 := (xS b, va_up (va_up (va_up (va_up I 68 (xfil 159 (I 61) (I 68))) 62 X) 63 X1) 61 Y1, L, xP b)) rfl trivial ?_
        refine xw_call xb_153 rfl rfl rfl rfl rfl (Or.inr ⟨_, _, rfl, rfl⟩) (m_backs (I := (va_up (va_up (va_up (va_up I 68 (xfil 159 (I 61) (I 68))) 62 X) 63 X1) 61 Y1))) ?_
        rintro _ _ ⟨rfl, rfl⟩
        refine xw_at (f' := (69, [.ref 60, .int (nI n), .int (nI 1), .int (nI (xdc (xgoN N (xfa N (N 3) (N 5)) n)))], [])) (h' := (xS b, va_up (va_up (va_up (va_up (va_up I 68 (xfil 159 (I 61) (I 68))) 62 X) 63 X1) 61 Y1) 61 (xfil 159 ((va_up (va_up (va_up (va_up I 68 (xfil 159 (I 61) (I 68))) 62 X) 63 X1) 61 Y1) 68) ((va_up (va_up (va_up (va_up I 68 (xfil 159 (I 61) (I 68))) 62 X) 63 X1) 61 Y1) 61)), L, xP b)) rfl rfl ?_
        refine xw_go xb_153 1 (f1 := (70, [.ref 60, .int (nI n), .int (nI 1), .int (nI (xdc (xgoN N (xfa N (N 3) (N 5)) n)))], [.int (nI (xdc (xgoN N (xfa N (N 3) (N 5)) n)))])) (h1 := (xS b, va_up (va_up (va_up (va_up (va_up I 68 (xfil 159 (I 61) (I 68))) 62 X) 63 X1) 61 Y1) 61 (xfil 159 ((va_up (va_up (va_up (va_up I 68 (xfil 159 (I 61) (I 68))) 62 X) 63 X1) 61 Y1) 68) ((va_up (va_up (va_up (va_up I 68 (xfil 159 (I 61) (I 68))) 62 X) 63 X1) 61 Y1) 61)), L, xP b)) rfl trivial ?_
        refine xw_ret xb_153 rfl rfl trivial ?_
        refine ⟨rfl, _, rfl, xMF_v (xMF_v (xMF_v (xMF_v (xMF_v (xMF_r I) (by decide)) (by decide)) (by decide)) (by decide)) (by decide), xML_N hM (fun k hk => ?_) rfl rfl⟩
        rw [show ∀ (f : Nat → Nat → Int32) (g : Nat → Int32), va_up f 61 g 61 = g from fun f g => by simp [va_up]]
        unfold xfil
        rw [if_pos hk, xm_vu_o (by decide), xm_vu_o (by decide), xm_vu_o (by decide)]
        rw [show ∀ (f : Nat → Nat → Int32) (g : Nat → Int32), va_up f 68 g 68 = g from fun f g => by simp [va_up]]
        rw [if_pos hk]
        exact hM.1 k hk
      · skip
        exfalso
        try simp only [xB_dec, Classical.not_not] at c_9 c_19 c_50
        try simp (disch := omega) only [xt_eq, xt_lt, xt_le, xkt_0, xkt_1, xkt_2, xkt_3, xkt_4, xkt_5, xkt_6, xkt_7, xkt_8, xkt_9, xkt_10, xkt_11, xkt_12, xkt_13, xkt_14, xkt_16, xkt_20, xkt_24, xkt_31, xkt_32, xkt_40, xkt_44, xkt_47, xkt_48, xkt_57, xkt_59, xkt_60, xkt_63, xkt_64, xkt_65, xkt_72, xkt_95, xkt_99, xkt_100, xkt_101, xkt_103, xkt_110, xkt_112, xkt_113, xkt_114, xkt_119, xkt_126, xkt_159, xkt_576, xkt_999, xkt_9999, xkt_65536, xkt_999999, xkt_m1, xkt_m2, xkt_m3, xkt_m4, xkt_m11, xkt_m12, xkt_m13, xkt_m14, xkt_m20, xjt_0, xjt_1, xjt_2, xjt_3, xjt_4, xjt_5, xjt_6, xjt_7, xjt_8, xjt_9, xjt_10, xjt_11, xjt_12, xjt_13, xjt_14, xjt_16, xjt_20, xjt_24, xjt_31, xjt_32, xjt_40, xjt_44, xjt_47, xjt_48, xjt_57, xjt_59, xjt_60, xjt_63, xjt_64, xjt_65, xjt_72, xjt_95, xjt_99, xjt_100, xjt_101, xjt_103, xjt_110, xjt_112, xjt_113, xjt_114, xjt_119, xjt_126, xjt_159, xjt_576, xjt_999, xjt_9999, xjt_65536, xjt_999999, xt64, xt_n, not_true_eq_false, not_false_eq_true, Classical.not_not] at c_9 c_19 c_50
        all_goals omega
    · skip
      exfalso
      try simp only [xB_dec, Classical.not_not] at c_9 c_19
      try simp (disch := omega) only [xt_eq, xt_lt, xt_le, xkt_0, xkt_1, xkt_2, xkt_3, xkt_4, xkt_5, xkt_6, xkt_7, xkt_8, xkt_9, xkt_10, xkt_11, xkt_12, xkt_13, xkt_14, xkt_16, xkt_20, xkt_24, xkt_31, xkt_32, xkt_40, xkt_44, xkt_47, xkt_48, xkt_57, xkt_59, xkt_60, xkt_63, xkt_64, xkt_65, xkt_72, xkt_95, xkt_99, xkt_100, xkt_101, xkt_103, xkt_110, xkt_112, xkt_113, xkt_114, xkt_119, xkt_126, xkt_159, xkt_576, xkt_999, xkt_9999, xkt_65536, xkt_999999, xkt_m1, xkt_m2, xkt_m3, xkt_m4, xkt_m11, xkt_m12, xkt_m13, xkt_m14, xkt_m20, xjt_0, xjt_1, xjt_2, xjt_3, xjt_4, xjt_5, xjt_6, xjt_7, xjt_8, xjt_9, xjt_10, xjt_11, xjt_12, xjt_13, xjt_14, xjt_16, xjt_20, xjt_24, xjt_31, xjt_32, xjt_40, xjt_44, xjt_47, xjt_48, xjt_57, xjt_59, xjt_60, xjt_63, xjt_64, xjt_65, xjt_72, xjt_95, xjt_99, xjt_100, xjt_101, xjt_103, xjt_110, xjt_112, xjt_113, xjt_114, xjt_119, xjt_126, xjt_159, xjt_576, xjt_999, xjt_9999, xjt_65536, xjt_999999, xt64, xt_n, not_true_eq_false, not_false_eq_true, Classical.not_not] at c_9 c_19
      all_goals omega

set_option maxHeartbeats 4000000 in
theorem c_firstEnough1 {d : Nat} {b : Bool} {I : Nat → Nat → Int32} {L : Nat → Nat → Int64} {N : Nat → Nat} (hN : xPN N 1 I) (hO : xOK N) (h4 : N 4 ≤ 9999) {n : Nat} (hn : n < 100) (h0 : xdc (xgoN N (xfa N (N 3) (N 5)) n) = 0) (hl : ∀ m, m < n → xdc (xgoN N (xfa N (N 3) (N 5)) m) ≠ 0) : xm_Z (d + 5) 78 [.ref 24] (xS b, I, L, xP b) (fun rz hz => rz = some (.int (nI n)) ∧ ∃ I', hz = (xS b, I', L, xP b) ∧ xFF I I') := by
  have hb := hO.1
  have c64 : N 0 * N 1 ≤ 64 := xce_le hO
  refine xw_S xb_78 (l := [.ref 24, .float 0]) (Nat.le_of_ble_eq_true rfl) rfl ?_
  refine xw_go xb_78 10 (f1 := (22, [.ref 24, .float 0], [.int (I 1 7), .int (I 1 6), .ref 1, .ref 20])) (h1 := (xS b, I, L, xP b)) rfl ⟨rfl, rfl, rfl, rfl, rfl, rfl, trivial⟩ ?_
  refine xw_call xb_78 rfl rfl rfl rfl rfl (Or.inr ⟨_, _, rfl, rfl⟩) (c_run (I := I) hN hO (o := N 3) (wi := N 5) (xOn32 hO) (by omega) hN.1.2.2.2.1 hN.1.2.2.2.2.2.1) ?_
  rintro _ _ ⟨rfl, F, X, T, hF, hT, rfl⟩
  refine xw_at (f' := (25, [.ref 24, .float 0], [])) (h' := (xS b, xm_up (va_up (va_up (va_up I 21 F) 23 X) 22 T) 20 3 (nI (xlo N (N 3) (N 5))), L, xP b)) rfl rfl ?_
  refine xw_go xb_78 2 (f1 := (27, [.ref 24, .int 0], [])) (h1 := (xS b, xm_up (va_up (va_up (va_up I 21 F) 23 X) 22 T) 20 3 (nI (xlo N (N 3) (N 5))), L, xP b)) rfl trivial ?_
  refine xw_loopP n (fun m => (27, [.ref 24, .int (nI m)], [])) (fun m h => ∃ J, h = (xS b, J, L, xP b) ∧ xFF I J ∧ ∀ j, j < N 0 * N 1 → J 22 j = nI (xta N (N 3) (N 5) j)) (fun m h hm hV ih => ?_) (fun h hV => ?_) 0 _ (Nat.zero_le _) ?_
  · obtain ⟨J, rfl, j1, hT⟩ := hV
    obtain ⟨⟨hN0, hN1, hN2, hN3, hN4, hN5, hN6, hN7, hN8, hN9, hN10⟩, hNs, hNw, hNp⟩ := xFF_N j1 (by omega) hN
    refine xw_go xb_78 3 (f1 := (if 99 < (nI m) then 81 else 33, [.ref 24, .int (nI m)], [])) (h1 := (xS b, J, L, xP b)) rfl trivial ?_
    refine xw_if (fun c_30 => ?_) (fun c_30 => ?_)
    · skip
      exfalso
      simp (disch := omega) only [xl_99, nI_ltI] at c_30
      omega
    · skip
      refine xw_go xb_78 11 (f1 := (56, [.ref 24, .int (nI m)], [.ref 25, .int (nI m), .ref 22, .ref 3, .ref 1])) (h1 := (xS b, J, L, xP b)) rfl ⟨rfl, rfl, rfl, rfl, rfl, rfl, trivial⟩ ?_
      refine xw_call xb_78 rfl rfl rfl rfl rfl (Or.inr ⟨_, _, rfl, rfl⟩) (c_soak (I := J) (R := N 0) (C := N 1) hN0 hN1 (by omega) (by omega) (fr := 3) (ta := 22) (to := 25) (m := m) rfl rfl rfl (by decide) (wv := fun c => N (95 + c)) (tv := xta N (N 3) (N 5)) (fun c hc => hNw c (by omega)) (fun c hc => hT c hc) (fun c hc => by have := hO.2.2.1 c (by omega); show N (95 + c) < _; omega) (fun c hc => by have := xta_le hO (o := N 3) (wi := N 5) hc; omega) (by omega) rfl) ?_
      rintro _ _ ⟨rfl, rfl⟩
      refine xw_at (f' := (59, [.ref 24, .int (nI m)], [])) (h' := (xS b, va_up (J) 25 (xfil (N 0 * N 1) (fun c => nI (min 9999 (N (95 + c) + m * xta N (N 3) (N 5) c))) ((J) 25)), L, xP b)) rfl rfl ?_
      have w25 : ∀ c, c < N 0 * N 1 → (va_up (J) 25 (xfil (N 0 * N 1) (fun c => nI (min 9999 (N (95 + c) + m * xta N (N 3) (N 5) c))) ((J) 25))) 25 c = nI (xgoN N (xfa N (N 3) (N 5)) m (95 + c)) := fun c hc => by
        simp only [va_up, if_true, xfil]
        rw [if_pos hc, xgoN_we hc]
        rfl
      refine xw_go xb_78 4 (f1 := (67, [.ref 24, .int (nI m)], [.ref 25, .ref 1])) (h1 := (xS b, va_up (J) 25 (xfil (N 0 * N 1) (fun c => nI (min 9999 (N (95 + c) + m * xta N (N 3) (N 5) c))) ((J) 25)), L, xP b)) rfl ⟨rfl, rfl, trivial⟩ ?_
      refine xw_call xb_78 rfl rfl rfl rfl rfl (Or.inr ⟨_, _, rfl, rfl⟩) (c_dryIn (I := (va_up (J) 25 (xfil (N 0 * N 1) (fun c => nI (min 9999 (N (95 + c) + m * xta N (N 3) (N 5) c))) ((J) 25)))) (R := N 0) (C := N 1) hN0 hN1 (by omega) (by omega) (so := fun c => N (31 + c)) (wt := fun c => xgoN N (xfa N (N 3) (N 5)) m (95 + c)) hNs hO.2.1 (w := 25) rfl w25 (fun c hc => xgoN_w2 hc) hN7 (by omega)) ?_
      rintro _ _ ⟨rfl, rfl⟩
      refine xw_at (f' := (70, [.ref 24, .int (nI m)], [.int (nI (xcnt (fun c => xs_dry (N (31 + c)) (xgoN N (xfa N (N 3) (N 5)) m (95 + c)) (N 7)) (N 0 * N 1)))])) (h' := (xS b, va_up (J) 25 (xfil (N 0 * N 1) (fun c => nI (min 9999 (N (95 + c) + m * xta N (N 3) (N 5) c))) ((J) 25)), L, xP b)) rfl rfl ?_
      have dle := xdc_le (xgoN_ok hO (xfa N (N 3) (N 5)) (n := m) (by omega))
      refine xw_go xb_78 1 (f1 := (if ¬ (nI (xcnt (fun c => xs_dry (N (31 + c)) (xgoN N (xfa N (N 3) (N 5)) m (95 + c)) (N 7)) (N 0 * N 1))) = 0 then 75 else 73, [.ref 24, .int (nI m)], [])) (h1 := (xS b, va_up (J) 25 (xfil (N 0 * N 1) (fun c => nI (min 9999 (N (95 + c) + m * xta N (N 3) (N 5) c))) ((J) 25)), L, xP b)) rfl trivial ?_
      refine xw_if (fun c_70 => ?_) (fun c_70 => ?_)
      · skip
        refine xw_go xb_78 2 (f1 := (27, [.ref 24, .int ((nI m) + 1)], [])) (h1 := (xS b, va_up (J) 25 (xfil (N 0 * N 1) (fun c => nI (min 9999 (N (95 + c) + m * xta N (N 3) (N 5) c))) ((J) 25)), L, xP b)) rfl trivial ?_
        refine xw_cong ?_ rfl rfl (ih _ ⟨_, rfl, xFF_v j1 (by decide), fun j hj => hT j hj⟩)
        rw [nI_1]
      · skip
        exfalso
        rw [Classical.not_not, ← xdc_go hO] at c_70
        exact xn_ne (by omega) (Nat.pos_of_ne_zero (hl m (by omega))) c_70
  · obtain ⟨J, rfl, j1, hT⟩ := hV
    obtain ⟨⟨hN0, hN1, hN2, hN3, hN4, hN5, hN6, hN7, hN8, hN9, hN10⟩, hNs, hNw, hNp⟩ := xFF_N j1 (by omega) hN
    refine xw_go xb_78 3 (f1 := (if 99 < (nI n) then 81 else 33, [.ref 24, .int (nI n)], [])) (h1 := (xS b, J, L, xP b)) rfl trivial ?_
    refine xw_if (fun c_30 => ?_) (fun c_30 => ?_)
    · skip
      exfalso
      simp (disch := omega) only [xl_99, nI_ltI] at c_30
      omega
    · skip
      refine xw_go xb_78 11 (f1 := (56, [.ref 24, .int (nI n)], [.ref 25, .int (nI n), .ref 22, .ref 3, .ref 1])) (h1 := (xS b, J, L, xP b)) rfl ⟨rfl, rfl, rfl, rfl, rfl, rfl, trivial⟩ ?_
      refine xw_call xb_78 rfl rfl rfl rfl rfl (Or.inr ⟨_, _, rfl, rfl⟩) (c_soak (I := J) (R := N 0) (C := N 1) hN0 hN1 (by omega) (by omega) (fr := 3) (ta := 22) (to := 25) (m := n) rfl rfl rfl (by decide) (wv := fun c => N (95 + c)) (tv := xta N (N 3) (N 5)) (fun c hc => hNw c (by omega)) (fun c hc => hT c hc) (fun c hc => by have := hO.2.2.1 c (by omega); show N (95 + c) < _; omega) (fun c hc => by have := xta_le hO (o := N 3) (wi := N 5) hc; omega) (by omega) rfl) ?_
      rintro _ _ ⟨rfl, rfl⟩
      refine xw_at (f' := (59, [.ref 24, .int (nI n)], [])) (h' := (xS b, va_up (J) 25 (xfil (N 0 * N 1) (fun c => nI (min 9999 (N (95 + c) + n * xta N (N 3) (N 5) c))) ((J) 25)), L, xP b)) rfl rfl ?_
      have w25 : ∀ c, c < N 0 * N 1 → (va_up (J) 25 (xfil (N 0 * N 1) (fun c => nI (min 9999 (N (95 + c) + n * xta N (N 3) (N 5) c))) ((J) 25))) 25 c = nI (xgoN N (xfa N (N 3) (N 5)) n (95 + c)) := fun c hc => by
        simp only [va_up, if_true, xfil]
        rw [if_pos hc, xgoN_we hc]
        rfl
      refine xw_go xb_78 4 (f1 := (67, [.ref 24, .int (nI n)], [.ref 25, .ref 1])) (h1 := (xS b, va_up (J) 25 (xfil (N 0 * N 1) (fun c => nI (min 9999 (N (95 + c) + n * xta N (N 3) (N 5) c))) ((J) 25)), L, xP b)) rfl ⟨rfl, rfl, trivial⟩ ?_
      refine xw_call xb_78 rfl rfl rfl rfl rfl (Or.inr ⟨_, _, rfl, rfl⟩) (c_dryIn (I := (va_up (J) 25 (xfil (N 0 * N 1) (fun c => nI (min 9999 (N (95 + c) + n * xta N (N 3) (N 5) c))) ((J) 25)))) (R := N 0) (C := N 1) hN0 hN1 (by omega) (by omega) (so := fun c => N (31 + c)) (wt := fun c => xgoN N (xfa N (N 3) (N 5)) n (95 + c)) hNs hO.2.1 (w := 25) rfl w25 (fun c hc => xgoN_w2 hc) hN7 (by omega)) ?_
      rintro _ _ ⟨rfl, rfl⟩
      refine xw_at (f' := (70, [.ref 24, .int (nI n)], [.int (nI (xcnt (fun c => xs_dry (N (31 + c)) (xgoN N (xfa N (N 3) (N 5)) n (95 + c)) (N 7)) (N 0 * N 1)))])) (h' := (xS b, va_up (J) 25 (xfil (N 0 * N 1) (fun c => nI (min 9999 (N (95 + c) + n * xta N (N 3) (N 5) c))) ((J) 25)), L, xP b)) rfl rfl ?_
      have dle := xdc_le (xgoN_ok hO (xfa N (N 3) (N 5)) (n := n) (by omega))
      refine xw_go xb_78 1 (f1 := (if ¬ (nI (xcnt (fun c => xs_dry (N (31 + c)) (xgoN N (xfa N (N 3) (N 5)) n (95 + c)) (N 7)) (N 0 * N 1))) = 0 then 75 else 73, [.ref 24, .int (nI n)], [])) (h1 := (xS b, va_up (J) 25 (xfil (N 0 * N 1) (fun c => nI (min 9999 (N (95 + c) + n * xta N (N 3) (N 5) c))) ((J) 25)), L, xP b)) rfl trivial ?_
      refine xw_if (fun c_70 => ?_) (fun c_70 => ?_)
      · skip
        exfalso
        rw [← xdc_go hO, h0] at c_70
        exact c_70 rfl
      · skip
        refine xw_go xb_78 1 (f1 := (74, [.ref 24, .int (nI n)], [.int (nI n)])) (h1 := (xS b, va_up (J) 25 (xfil (N 0 * N 1) (fun c => nI (min 9999 (N (95 + c) + n * xta N (N 3) (N 5) c))) ((J) 25)), L, xP b)) rfl trivial ?_
        refine xw_ret xb_78 rfl rfl trivial ?_
        exact ⟨rfl, _, rfl, xFF_v j1 (by decide)⟩
  · exact ⟨_, rfl, xFF_u (xFF_v (xFF_v (xFF_v (xFF_r I) (by decide)) (by decide)) (by decide)) (by decide), fun j hj => hT j hj⟩

set_option maxHeartbeats 4000000 in
theorem c_firstEnough0 {d : Nat} {b : Bool} {I : Nat → Nat → Int32} {L : Nat → Nat → Int64} {N : Nat → Nat} (hN : xPN N 1 I) (hO : xOK N) (h4 : N 4 ≤ 9999) (hl : ∀ m, m < 100 → xdc (xgoN N (xfa N (N 3) (N 5)) m) ≠ 0) : xm_Z (d + 5) 78 [.ref 24] (xS b, I, L, xP b) (fun rz hz => rz = some (.int (-4)) ∧ ∃ I', hz = (xS b, I', L, xP b) ∧ xFF I I') := by
  have hb := hO.1
  have c64 : N 0 * N 1 ≤ 64 := xce_le hO
  refine xw_S xb_78 (l := [.ref 24, .float 0]) (Nat.le_of_ble_eq_true rfl) rfl ?_
  refine xw_go xb_78 10 (f1 := (22, [.ref 24, .float 0], [.int (I 1 7), .int (I 1 6), .ref 1, .ref 20])) (h1 := (xS b, I, L, xP b)) rfl ⟨rfl, rfl, rfl, rfl, rfl, rfl, trivial⟩ ?_
  refine xw_call xb_78 rfl rfl rfl rfl rfl (Or.inr ⟨_, _, rfl, rfl⟩) (c_run (I := I) hN hO (o := N 3) (wi := N 5) (xOn32 hO) (by omega) hN.1.2.2.2.1 hN.1.2.2.2.2.2.1) ?_
  rintro _ _ ⟨rfl, F, X, T, hF, hT, rfl⟩
  refine xw_at (f' := (25, [.ref 24, .float 0], [])) (h' := (xS b, xm_up (va_up (va_up (va_up I 21 F) 23 X) 22 T) 20 3 (nI (xlo N (N 3) (N 5))), L, xP b)) rfl rfl ?_
  refine xw_go xb_78 2 (f1 := (27, [.ref 24, .int 0], [])) (h1 := (xS b, xm_up (va_up (va_up (va_up I 21 F) 23 X) 22 T) 20 3 (nI (xlo N (N 3) (N 5))), L, xP b)) rfl trivial ?_
  refine xw_loopP 100 (fun m => (27, [.ref 24, .int (nI m)], [])) (fun m h => ∃ J, h = (xS b, J, L, xP b) ∧ xFF I J ∧ ∀ j, j < N 0 * N 1 → J 22 j = nI (xta N (N 3) (N 5) j)) (fun m h hm hV ih => ?_) (fun h hV => ?_) 0 _ (Nat.zero_le _) ?_
  · obtain ⟨J, rfl, j1, hT⟩ := hV
    obtain ⟨⟨hN0, hN1, hN2, hN3, hN4, hN5, hN6, hN7, hN8, hN9, hN10⟩, hNs, hNw, hNp⟩ := xFF_N j1 (by omega) hN
    refine xw_go xb_78 3 (f1 := (if 99 < (nI m) then 81 else 33, [.ref 24, .int (nI m)], [])) (h1 := (xS b, J, L, xP b)) rfl trivial ?_
    refine xw_if (fun c_30 => ?_) (fun c_30 => ?_)
    · skip
      exfalso
      simp (disch := omega) only [xl_99, nI_ltI] at c_30
      omega
    · skip
      refine xw_go xb_78 11 (f1 := (56, [.ref 24, .int (nI m)], [.ref 25, .int (nI m), .ref 22, .ref 3, .ref 1])) (h1 := (xS b, J, L, xP b)) rfl ⟨rfl, rfl, rfl, rfl, rfl, rfl, trivial⟩ ?_
      refine xw_call xb_78 rfl rfl rfl rfl rfl (Or.inr ⟨_, _, rfl, rfl⟩) (c_soak (I := J) (R := N 0) (C := N 1) hN0 hN1 (by omega) (by omega) (fr := 3) (ta := 22) (to := 25) (m := m) rfl rfl rfl (by decide) (wv := fun c => N (95 + c)) (tv := xta N (N 3) (N 5)) (fun c hc => hNw c (by omega)) (fun c hc => hT c hc) (fun c hc => by have := hO.2.2.1 c (by omega); show N (95 + c) < _; omega) (fun c hc => by have := xta_le hO (o := N 3) (wi := N 5) hc; omega) (by omega) rfl) ?_
      rintro _ _ ⟨rfl, rfl⟩
      refine xw_at (f' := (59, [.ref 24, .int (nI m)], [])) (h' := (xS b, va_up (J) 25 (xfil (N 0 * N 1) (fun c => nI (min 9999 (N (95 + c) + m * xta N (N 3) (N 5) c))) ((J) 25)), L, xP b)) rfl rfl ?_
      have w25 : ∀ c, c < N 0 * N 1 → (va_up (J) 25 (xfil (N 0 * N 1) (fun c => nI (min 9999 (N (95 + c) + m * xta N (N 3) (N 5) c))) ((J) 25))) 25 c = nI (xgoN N (xfa N (N 3) (N 5)) m (95 + c)) := fun c hc => by
        simp only [va_up, if_true, xfil]
        rw [if_pos hc, xgoN_we hc]
        rfl
      refine xw_go xb_78 4 (f1 := (67, [.ref 24, .int (nI m)], [.ref 25, .ref 1])) (h1 := (xS b, va_up (J) 25 (xfil (N 0 * N 1) (fun c => nI (min 9999 (N (95 + c) + m * xta N (N 3) (N 5) c))) ((J) 25)), L, xP b)) rfl ⟨rfl, rfl, trivial⟩ ?_
      refine xw_call xb_78 rfl rfl rfl rfl rfl (Or.inr ⟨_, _, rfl, rfl⟩) (c_dryIn (I := (va_up (J) 25 (xfil (N 0 * N 1) (fun c => nI (min 9999 (N (95 + c) + m * xta N (N 3) (N 5) c))) ((J) 25)))) (R := N 0) (C := N 1) hN0 hN1 (by omega) (by omega) (so := fun c => N (31 + c)) (wt := fun c => xgoN N (xfa N (N 3) (N 5)) m (95 + c)) hNs hO.2.1 (w := 25) rfl w25 (fun c hc => xgoN_w2 hc) hN7 (by omega)) ?_
      rintro _ _ ⟨rfl, rfl⟩
      refine xw_at (f' := (70, [.ref 24, .int (nI m)], [.int (nI (xcnt (fun c => xs_dry (N (31 + c)) (xgoN N (xfa N (N 3) (N 5)) m (95 + c)) (N 7)) (N 0 * N 1)))])) (h' := (xS b, va_up (J) 25 (xfil (N 0 * N 1) (fun c => nI (min 9999 (N (95 + c) + m * xta N (N 3) (N 5) c))) ((J) 25)), L, xP b)) rfl rfl ?_
      have dle := xdc_le (xgoN_ok hO (xfa N (N 3) (N 5)) (n := m) (by omega))
      refine xw_go xb_78 1 (f1 := (if ¬ (nI (xcnt (fun c => xs_dry (N (31 + c)) (xgoN N (xfa N (N 3) (N 5)) m (95 + c)) (N 7)) (N 0 * N 1))) = 0 then 75 else 73, [.ref 24, .int (nI m)], [])) (h1 := (xS b, va_up (J) 25 (xfil (N 0 * N 1) (fun c => nI (min 9999 (N (95 + c) + m * xta N (N 3) (N 5) c))) ((J) 25)), L, xP b)) rfl trivial ?_
      refine xw_if (fun c_70 => ?_) (fun c_70 => ?_)
      · skip
        refine xw_go xb_78 2 (f1 := (27, [.ref 24, .int ((nI m) + 1)], [])) (h1 := (xS b, va_up (J) 25 (xfil (N 0 * N 1) (fun c => nI (min 9999 (N (95 + c) + m * xta N (N 3) (N 5) c))) ((J) 25)), L, xP b)) rfl trivial ?_
        refine xw_cong ?_ rfl rfl (ih _ ⟨_, rfl, xFF_v j1 (by decide), fun j hj => hT j hj⟩)
        rw [nI_1]
      · skip
        exfalso
        rw [Classical.not_not, ← xdc_go hO] at c_70
        exact xn_ne (by omega) (Nat.pos_of_ne_zero (hl m (by omega))) c_70
  · obtain ⟨J, rfl, j1, hT⟩ := hV
    obtain ⟨⟨hN0, hN1, hN2, hN3, hN4, hN5, hN6, hN7, hN8, hN9, hN10⟩, hNs, hNw, hNp⟩ := xFF_N j1 (by omega) hN
    refine xw_go xb_78 3 (f1 := (if 99 < (nI 100) then 81 else 33, [.ref 24, .int (nI 100)], [])) (h1 := (xS b, J, L, xP b)) rfl trivial ?_
    refine xw_if (fun c_30 => ?_) (fun c_30 => ?_)
    · skip
      refine xw_go xb_78 1 (f1 := (83, [.ref 24, .int (nI 100)], [.int (-4)])) (h1 := (xS b, J, L, xP b)) rfl trivial ?_
      refine xw_ret xb_78 rfl rfl trivial ?_
      exact ⟨rfl, J, rfl, j1⟩
    · skip
      exfalso
      simp (disch := omega) only [xl_99, nI_ltI] at c_30
      omega
  · exact ⟨_, rfl, xFF_u (xFF_v (xFF_v (xFF_v (xFF_r I) (by decide)) (by decide)) (by decide)) (by decide), fun j hj => hT j hj⟩

theorem c_enough1 {d : Nat} {b : Bool} {I : Nat → Nat → Int32} {L : Nat → Nat → Int64} {N : Nat → Nat} {u : Nat} {U : Nat → Nat → Nat} (hP : xPL N u U 1 I) (hK : xUK N u U) {n : Nat} (hn : n < 100) (h0 : xdc (xgoN N (xfa N (N 3) (N 5)) n) = 0) (hl : ∀ m, m < n → xdc (xgoN N (xfa N (N 3) (N 5)) m) ≠ 0) : xm_Z (d + 6) 77 [.ref 0] (xS b, I, L, xP b) (fun rz hz => xQC b I L (nI n) N u U rz hz) := by
  refine xw_S xb_77 (l := [.ref 0]) (Nat.le_of_ble_eq_true rfl) rfl ?_
  refine xw_go xb_77 2 (f1 := (4, [.ref 0], [.ref 24])) (h1 := (xS b, I, L, xP b)) rfl ⟨rfl, trivial⟩ ?_
  refine xw_call xb_77 rfl rfl rfl rfl rfl (Or.inr ⟨_, _, rfl, rfl⟩) (c_firstEnough1 (I := I) hP.1 hK.1 hK.2.1 hn h0 hl) ?_
  rintro _ _ ⟨rfl, I1, rfl, g1⟩
  refine xw_at (f' := (7, [.ref 0], [.int (nI n)])) (h' := (xS b, I1, L, xP b)) rfl rfl ?_
  refine xw_ret xb_77 rfl rfl trivial ?_
  exact ⟨rfl, I1, rfl, xFF_P g1, xFF_L g1 (by have := hK.1.1; omega) hP⟩

theorem c_enough0 {d : Nat} {b : Bool} {I : Nat → Nat → Int32} {L : Nat → Nat → Int64} {N : Nat → Nat} {u : Nat} {U : Nat → Nat → Nat} (hP : xPL N u U 1 I) (hK : xUK N u U) (hl : ∀ m, m < 100 → xdc (xgoN N (xfa N (N 3) (N 5)) m) ≠ 0) : xm_Z (d + 6) 77 [.ref 0] (xS b, I, L, xP b) (fun rz hz => xQC b I L (-4) N u U rz hz) := by
  refine xw_S xb_77 (l := [.ref 0]) (Nat.le_of_ble_eq_true rfl) rfl ?_
  refine xw_go xb_77 2 (f1 := (4, [.ref 0], [.ref 24])) (h1 := (xS b, I, L, xP b)) rfl ⟨rfl, trivial⟩ ?_
  refine xw_call xb_77 rfl rfl rfl rfl rfl (Or.inr ⟨_, _, rfl, rfl⟩) (c_firstEnough0 (I := I) hP.1 hK.1 hK.2.1 hl) ?_
  rintro _ _ ⟨rfl, I1, rfl, g1⟩
  refine xw_at (f' := (7, [.ref 0], [.int (-4)])) (h' := (xS b, I1, L, xP b)) rfl rfl ?_
  refine xw_ret xb_77 rfl rfl trivial ?_
  exact ⟨rfl, I1, rfl, xFF_P g1, xFF_L g1 (by have := hK.1.1; omega) hP⟩

set_option maxHeartbeats 4000000 in
theorem m_enough1 {d : Nat} {b : Bool} {I : Nat → Nat → Int32} {L : Nat → Nat → Int64} {N : Nat → Nat} {u : Nat} {U : Nat → Nat → Nat} (hM : xML N u U I) (hK : xUK N u U) {n : Nat} (hn : n < 100) (h0 : xdc (xgoN N (xfa N (N 3) (N 5)) n) = 0) (hl : ∀ m, m < n → xdc (xgoN N (xfa N (N 3) (N 5)) m) ≠ 0) : xm_Z (d + 6) 155 [.ref 60] (xS b, I, L, xP b) (fun rz hz => xQM b I L (nI n) N u U rz hz) := by
  have hO := hK.1
  have hb := hK.1.1
  have c64 : N 0 * N 1 ≤ 64 := xce_le hO
  have c4 : 4 ≤ N 0 * N 1 := xce_ge hO
  have h4 := hK.2.1
  refine xw_S xb_155 (l := [.ref 60, .float 0]) (Nat.le_of_ble_eq_true rfl) rfl ?_
  refine xw_go xb_155 1 (f1 := (1, [.ref 60, .float 0], [.ref 60])) (h1 := (xS b, I, L, xP b)) rfl trivial ?_
  refine xw_call xb_155 rfl rfl rfl rfl rfl (Or.inr ⟨_, _, rfl, rfl⟩) (m_asides (I := I)) ?_
  rintro _ _ ⟨rfl, rfl⟩
  refine xw_at (f' := (4, [.ref 60, .float 0], [])) (h' := (xS b, va_up I 68 (xfil 159 (I 61) (I 68)), L, xP b)) rfl rfl ?_
  refine xw_go xb_155 9 (f1 := (17, [.ref 60, .float 0], [.int ((va_up I 68 (xfil 159 (I 61) (I 68))) 61 (5 : Int32).toNatClampNeg), .int ((va_up I 68 (xfil 159 (I 61) (I 68))) 61 (3 : Int32).toNatClampNeg), .ref 60])) (h1 := (xS b, va_up I 68 (xfil 159 (I 61) (I 68)), L, xP b)) rfl ⟨rfl, (xn_ar (n := 3) (N := 159) rfl (by decide) (by decide)), rfl, (xn_ar (n := 5) (N := 159) rfl (by decide) (by decide)), trivial⟩ ?_
  refine xw_call xb_155 rfl rfl rfl rfl rfl (Or.inr ⟨_, _, rfl, rfl⟩) (m_rains (I := (va_up I 68 (xfil 159 (I 61) (I 68)))) (N := N) (fun k hk => hM.1 k hk) hO (o := N 3) (wi := N 5) (xOn32 hO) (by omega) (hM.1 3 (by decide)) (hM.1 5 (by decide))) ?_
  rintro _ _ ⟨rfl, X, rfl, hX⟩
  refine xw_at (f' := (20, [.ref 60, .float 0], [])) (h' := (xS b, va_up (va_up I 68 (xfil 159 (I 61) (I 68))) 62 X, L, xP b)) rfl rfl ?_
  refine xw_go xb_155 2 (f1 := (22, [.ref 60, .int 0], [])) (h1 := (xS b, va_up (va_up I 68 (xfil 159 (I 61) (I 68))) 62 X, L, xP b)) rfl trivial ?_
  refine xw_loopP n (fun m => (22, [.ref 60, .int (nI m)], [])) (fun m h => ∃ J, h = (xS b, J, L, xP b) ∧ xMF I J ∧ J 68 = xfil 159 (I 61) (I 68) ∧ J 67 = I 67 ∧ J 60 = I 60 ∧ xMN (xgoN N (xfa N (N 3) (N 5)) m) J ∧ ∀ j, j < N 0 * N 1 → J 62 j = nI ((xfa N (N 3) (N 5)) j)) (fun m h hm hV ih => ?_) (fun h hV => ?_) 0 _ (Nat.zero_le _) ?_
  · obtain ⟨J, rfl, j1, j2, j3, j4, j5, j6⟩ := hV
    have dle := xdc_le (xgoN_ok hO (xfa N (N 3) (N 5)) (n := m) (by omega))
    refine xw_go xb_155 3 (f1 := (if 100 ≤ (nI m) then 45 else 28, [.ref 60, .int (nI m)], [])) (h1 := (xS b, J, L, xP b)) rfl trivial ?_
    refine xw_if (fun c_25 => ?_) (fun c_25 => ?_)
    · skip
      exfalso
      first
        | (simp (disch := omega) only [xl_100, nI_leI] at c_25; omega)
        | (simp (disch := omega) only [xl_0, nI_leI] at c_32; exact hl m (by omega) (by omega))
    · skip
      refine xw_go xb_155 1 (f1 := (29, [.ref 60, .int (nI m)], [.ref 60])) (h1 := (xS b, J, L, xP b)) rfl trivial ?_
      refine xw_call xb_155 rfl rfl rfl rfl rfl (Or.inr ⟨_, _, rfl, rfl⟩) (m_dryOnes (I := J) (N := xgoN N (xfa N (N 3) (N 5)) m) j5 (xgoN_ok hO (xfa N (N 3) (N 5)) (n := m) (by omega))) ?_
      rintro _ _ ⟨rfl, rfl⟩
      refine xw_at (f' := (32, [.ref 60, .int (nI m)], [.int (nI (xdc (xgoN N (xfa N (N 3) (N 5)) m)))])) (h' := (xS b, J, L, xP b)) rfl rfl ?_
      refine xw_go xb_155 1 (f1 := (if (nI (xdc (xgoN N (xfa N (N 3) (N 5)) m))) ≤ 0 then 45 else 35, [.ref 60, .int (nI m)], [])) (h1 := (xS b, J, L, xP b)) rfl trivial ?_
      refine xw_if (fun c_32 => ?_) (fun c_32 => ?_)
      · skip
        exfalso
        first
          | (simp (disch := omega) only [xl_100, nI_leI] at c_25; omega)
          | (simp (disch := omega) only [xl_0, nI_leI] at c_32; exact hl m (by omega) (by omega))
      · skip
        refine xw_go xb_155 1 (f1 := (36, [.ref 60, .int (nI m)], [.ref 60])) (h1 := (xS b, J, L, xP b)) rfl trivial ?_
        refine xw_call xb_155 rfl rfl rfl rfl rfl (Or.inr ⟨_, _, rfl, rfl⟩) (m_goesBy (I := J) j5 (xgoN_ok hO (xfa N (N 3) (N 5)) (n := m) (by omega)) (fv := (xfa N (N 3) (N 5))) (fun j hj => j6 j hj) (fun j hj => by have := xfa_le hO (N 3) (N 5) j; omega)) ?_
        rintro _ _ ⟨rfl, X1, Y1, rfl, hY⟩
        refine xw_at (f' := (39, [.ref 60, .int (nI m)], [])) (h' := (xS b, va_up (va_up J 63 X1) 61 Y1, L, xP b)) rfl rfl ?_
        refine xw_go xb_155 2 (f1 := (22, [.ref 60, .int ((nI m) + 1)], [])) (h1 := (xS b, va_up (va_up J 63 X1) 61 Y1, L, xP b)) rfl trivial ?_
        refine xw_cong ?_ rfl rfl (ih _ ⟨_, rfl, xMF_v (xMF_v j1 (by decide)) (by decide), j2, j3, j4, fun k hk => ?_, fun j hj => j6 j hj⟩)
        · rw [nI_1]
        · rw [← xgoN_f hO]
          exact hY k hk
  · obtain ⟨J, rfl, j1, j2, j3, j4, j5, j6⟩ := hV
    have dle := xdc_le (xgoN_ok hO (xfa N (N 3) (N 5)) (n := n) (by omega))
    refine xw_go xb_155 3 (f1 := (if 100 ≤ (nI n) then 45 else 28, [.ref 60, .int (nI n)], [])) (h1 := (xS b, J, L, xP b)) rfl trivial ?_
    refine xw_if (fun c_25 => ?_) (fun c_25 => ?_)
    · skip
      refine xw_go xb_155 1 (f1 := (46, [.ref 60, .int (nI n)], [.ref 60])) (h1 := (xS b, J, L, xP b)) rfl trivial ?_
      refine xw_call xb_155 rfl rfl rfl rfl rfl (Or.inr ⟨_, _, rfl, rfl⟩) (m_backs (I := J)) ?_
      rintro _ _ ⟨rfl, rfl⟩
      refine xw_at (f' := (49, [.ref 60, .int (nI n)], [])) (h' := (xS b, va_up J 61 (xfil 159 (J 68) (J 61)), L, xP b)) rfl rfl ?_
      refine xw_go xb_155 3 (f1 := (if 100 ≤ (nI n) then 59 else 55, [.ref 60, .int (nI n)], [])) (h1 := (xS b, va_up J 61 (xfil 159 (J 68) (J 61)), L, xP b)) rfl trivial ?_
      refine xw_if (fun c_52 => ?_) (fun c_52 => ?_)
      · skip
        exfalso
        simp (disch := omega) only [xl_100, nI_leI] at c_25 c_52
        omega
      · skip
        refine xw_go xb_155 2 (f1 := (61, [.ref 60, .int (nI n)], [.int (nI n)])) (h1 := (xS b, va_up J 61 (xfil 159 (J 68) (J 61)), L, xP b)) rfl trivial ?_
        refine xw_ret xb_155 rfl rfl trivial ?_
        refine ⟨rfl, _, rfl, xMF_v j1 (by decide), xML_N hM (fun k hk => ?_) ?_ ?_⟩
        · rw [show ∀ (f : Nat → Nat → Int32) (g : Nat → Int32), va_up f 61 g 61 = g from fun f g => by simp [va_up]]
          unfold xfil
          rw [if_pos hk, j2]
          unfold xfil
          rw [if_pos hk]
          exact hM.1 k hk
        · rw [xm_vu_o (by decide), j4]
        · rw [xm_vu_o (by decide), j3]
    · skip
      refine xw_go xb_155 1 (f1 := (29, [.ref 60, .int (nI n)], [.ref 60])) (h1 := (xS b, J, L, xP b)) rfl trivial ?_
      refine xw_call xb_155 rfl rfl rfl rfl rfl (Or.inr ⟨_, _, rfl, rfl⟩) (m_dryOnes (I := J) (N := xgoN N (xfa N (N 3) (N 5)) n) j5 (xgoN_ok hO (xfa N (N 3) (N 5)) (n := n) (by omega))) ?_
      rintro _ _ ⟨rfl, rfl⟩
      refine xw_at (f' := (32, [.ref 60, .int (nI n)], [.int (nI (xdc (xgoN N (xfa N (N 3) (N 5)) n)))])) (h' := (xS b, J, L, xP b)) rfl rfl ?_
      refine xw_go xb_155 1 (f1 := (if (nI (xdc (xgoN N (xfa N (N 3) (N 5)) n))) ≤ 0 then 45 else 35, [.ref 60, .int (nI n)], [])) (h1 := (xS b, J, L, xP b)) rfl trivial ?_
      refine xw_if (fun c_32 => ?_) (fun c_32 => ?_)
      · skip
        refine xw_go xb_155 1 (f1 := (46, [.ref 60, .int (nI n)], [.ref 60])) (h1 := (xS b, J, L, xP b)) rfl trivial ?_
        refine xw_call xb_155 rfl rfl rfl rfl rfl (Or.inr ⟨_, _, rfl, rfl⟩) (m_backs (I := J)) ?_
        rintro _ _ ⟨rfl, rfl⟩
        refine xw_at (f' := (49, [.ref 60, .int (nI n)], [])) (h' := (xS b, va_up J 61 (xfil 159 (J 68) (J 61)), L, xP b)) rfl rfl ?_
        refine xw_go xb_155 3 (f1 := (if 100 ≤ (nI n) then 59 else 55, [.ref 60, .int (nI n)], [])) (h1 := (xS b, va_up J 61 (xfil 159 (J 68) (J 61)), L, xP b)) rfl trivial ?_
        refine xw_if (fun c_52 => ?_) (fun c_52 => ?_)
        · skip
          exfalso
          simp (disch := omega) only [xl_100, nI_leI] at c_25 c_32 c_52
          omega
        · skip
          refine xw_go xb_155 2 (f1 := (61, [.ref 60, .int (nI n)], [.int (nI n)])) (h1 := (xS b, va_up J 61 (xfil 159 (J 68) (J 61)), L, xP b)) rfl trivial ?_
          refine xw_ret xb_155 rfl rfl trivial ?_
          refine ⟨rfl, _, rfl, xMF_v j1 (by decide), xML_N hM (fun k hk => ?_) ?_ ?_⟩
          · rw [show ∀ (f : Nat → Nat → Int32) (g : Nat → Int32), va_up f 61 g 61 = g from fun f g => by simp [va_up]]
            unfold xfil
            rw [if_pos hk, j2]
            unfold xfil
            rw [if_pos hk]
            exact hM.1 k hk
          · rw [xm_vu_o (by decide), j4]
          · rw [xm_vu_o (by decide), j3]
      · skip
        exfalso
        rw [h0] at c_32
        exact c_32 (by decide)
  · refine ⟨_, rfl, xMF_v (xMF_v (xMF_r I) (by decide)) (by decide), rfl, rfl, rfl, ?_, fun j hj => hX j hj⟩
    rw [xgoN_z hO]
    exact fun k hk => hM.1 k hk

set_option maxHeartbeats 4000000 in
theorem m_enough0 {d : Nat} {b : Bool} {I : Nat → Nat → Int32} {L : Nat → Nat → Int64} {N : Nat → Nat} {u : Nat} {U : Nat → Nat → Nat} (hM : xML N u U I) (hK : xUK N u U) (hl : ∀ m, m < 100 → xdc (xgoN N (xfa N (N 3) (N 5)) m) ≠ 0) : xm_Z (d + 6) 155 [.ref 60] (xS b, I, L, xP b) (fun rz hz => xQM b I L (-4) N u U rz hz) := by
  have hO := hK.1
  have hb := hK.1.1
  have c64 : N 0 * N 1 ≤ 64 := xce_le hO
  have c4 : 4 ≤ N 0 * N 1 := xce_ge hO
  have h4 := hK.2.1
  refine xw_S xb_155 (l := [.ref 60, .float 0]) (Nat.le_of_ble_eq_true rfl) rfl ?_
  refine xw_go xb_155 1 (f1 := (1, [.ref 60, .float 0], [.ref 60])) (h1 := (xS b, I, L, xP b)) rfl trivial ?_
  refine xw_call xb_155 rfl rfl rfl rfl rfl (Or.inr ⟨_, _, rfl, rfl⟩) (m_asides (I := I)) ?_
  rintro _ _ ⟨rfl, rfl⟩
  refine xw_at (f' := (4, [.ref 60, .float 0], [])) (h' := (xS b, va_up I 68 (xfil 159 (I 61) (I 68)), L, xP b)) rfl rfl ?_
  refine xw_go xb_155 9 (f1 := (17, [.ref 60, .float 0], [.int ((va_up I 68 (xfil 159 (I 61) (I 68))) 61 (5 : Int32).toNatClampNeg), .int ((va_up I 68 (xfil 159 (I 61) (I 68))) 61 (3 : Int32).toNatClampNeg), .ref 60])) (h1 := (xS b, va_up I 68 (xfil 159 (I 61) (I 68)), L, xP b)) rfl ⟨rfl, (xn_ar (n := 3) (N := 159) rfl (by decide) (by decide)), rfl, (xn_ar (n := 5) (N := 159) rfl (by decide) (by decide)), trivial⟩ ?_
  refine xw_call xb_155 rfl rfl rfl rfl rfl (Or.inr ⟨_, _, rfl, rfl⟩) (m_rains (I := (va_up I 68 (xfil 159 (I 61) (I 68)))) (N := N) (fun k hk => hM.1 k hk) hO (o := N 3) (wi := N 5) (xOn32 hO) (by omega) (hM.1 3 (by decide)) (hM.1 5 (by decide))) ?_
  rintro _ _ ⟨rfl, X, rfl, hX⟩
  refine xw_at (f' := (20, [.ref 60, .float 0], [])) (h' := (xS b, va_up (va_up I 68 (xfil 159 (I 61) (I 68))) 62 X, L, xP b)) rfl rfl ?_
  refine xw_go xb_155 2 (f1 := (22, [.ref 60, .int 0], [])) (h1 := (xS b, va_up (va_up I 68 (xfil 159 (I 61) (I 68))) 62 X, L, xP b)) rfl trivial ?_
  refine xw_loopP 100 (fun m => (22, [.ref 60, .int (nI m)], [])) (fun m h => ∃ J, h = (xS b, J, L, xP b) ∧ xMF I J ∧ J 68 = xfil 159 (I 61) (I 68) ∧ J 67 = I 67 ∧ J 60 = I 60 ∧ xMN (xgoN N (xfa N (N 3) (N 5)) m) J ∧ ∀ j, j < N 0 * N 1 → J 62 j = nI ((xfa N (N 3) (N 5)) j)) (fun m h hm hV ih => ?_) (fun h hV => ?_) 0 _ (Nat.zero_le _) ?_
  · obtain ⟨J, rfl, j1, j2, j3, j4, j5, j6⟩ := hV
    have dle := xdc_le (xgoN_ok hO (xfa N (N 3) (N 5)) (n := m) (by omega))
    refine xw_go xb_155 3 (f1 := (if 100 ≤ (nI m) then 45 else 28, [.ref 60, .int (nI m)], [])) (h1 := (xS b, J, L, xP b)) rfl trivial ?_
    refine xw_if (fun c_25 => ?_) (fun c_25 => ?_)
    · skip
      exfalso
      first
        | (simp (disch := omega) only [xl_100, nI_leI] at c_25; omega)
        | (simp (disch := omega) only [xl_0, nI_leI] at c_32; exact hl m (by omega) (by omega))
    · skip
      refine xw_go xb_155 1 (f1 := (29, [.ref 60, .int (nI m)], [.ref 60])) (h1 := (xS b, J, L, xP b)) rfl trivial ?_
      refine xw_call xb_155 rfl rfl rfl rfl rfl (Or.inr ⟨_, _, rfl, rfl⟩) (m_dryOnes (I := J) (N := xgoN N (xfa N (N 3) (N 5)) m) j5 (xgoN_ok hO (xfa N (N 3) (N 5)) (n := m) (by omega))) ?_
      rintro _ _ ⟨rfl, rfl⟩
      refine xw_at (f' := (32, [.ref 60, .int (nI m)], [.int (nI (xdc (xgoN N (xfa N (N 3) (N 5)) m)))])) (h' := (xS b, J, L, xP b)) rfl rfl ?_
      refine xw_go xb_155 1 (f1 := (if (nI (xdc (xgoN N (xfa N (N 3) (N 5)) m))) ≤ 0 then 45 else 35, [.ref 60, .int (nI m)], [])) (h1 := (xS b, J, L, xP b)) rfl trivial ?_
      refine xw_if (fun c_32 => ?_) (fun c_32 => ?_)
      · skip
        exfalso
        first
          | (simp (disch := omega) only [xl_100, nI_leI] at c_25; omega)
          | (simp (disch := omega) only [xl_0, nI_leI] at c_32; exact hl m (by omega) (by omega))
      · skip
        refine xw_go xb_155 1 (f1 := (36, [.ref 60, .int (nI m)], [.ref 60])) (h1 := (xS b, J, L, xP b)) rfl trivial ?_
        refine xw_call xb_155 rfl rfl rfl rfl rfl (Or.inr ⟨_, _, rfl, rfl⟩) (m_goesBy (I := J) j5 (xgoN_ok hO (xfa N (N 3) (N 5)) (n := m) (by omega)) (fv := (xfa N (N 3) (N 5))) (fun j hj => j6 j hj) (fun j hj => by have := xfa_le hO (N 3) (N 5) j; omega)) ?_
        rintro _ _ ⟨rfl, X1, Y1, rfl, hY⟩
        refine xw_at (f' := (39, [.ref 60, .int (nI m)], [])) (h' := (xS b, va_up (va_up J 63 X1) 61 Y1, L, xP b)) rfl rfl ?_
        refine xw_go xb_155 2 (f1 := (22, [.ref 60, .int ((nI m) + 1)], [])) (h1 := (xS b, va_up (va_up J 63 X1) 61 Y1, L, xP b)) rfl trivial ?_
        refine xw_cong ?_ rfl rfl (ih _ ⟨_, rfl, xMF_v (xMF_v j1 (by decide)) (by decide), j2, j3, j4, fun k hk => ?_, fun j hj => j6 j hj⟩)
        · rw [nI_1]
        · rw [← xgoN_f hO]
          exact hY k hk
  · obtain ⟨J, rfl, j1, j2, j3, j4, j5, j6⟩ := hV
    refine xw_go xb_155 3 (f1 := (if 100 ≤ (nI 100) then 45 else 28, [.ref 60, .int (nI 100)], [])) (h1 := (xS b, J, L, xP b)) rfl trivial ?_
    refine xw_if (fun c_25 => ?_) (fun c_25 => ?_)
    · skip
      refine xw_go xb_155 1 (f1 := (46, [.ref 60, .int (nI 100)], [.ref 60])) (h1 := (xS b, J, L, xP b)) rfl trivial ?_
      refine xw_call xb_155 rfl rfl rfl rfl rfl (Or.inr ⟨_, _, rfl, rfl⟩) (m_backs (I := J)) ?_
      rintro _ _ ⟨rfl, rfl⟩
      refine xw_at (f' := (49, [.ref 60, .int (nI 100)], [])) (h' := (xS b, va_up J 61 (xfil 159 (J 68) (J 61)), L, xP b)) rfl rfl ?_
      refine xw_go xb_155 3 (f1 := (if 100 ≤ (nI 100) then 59 else 55, [.ref 60, .int (nI 100)], [])) (h1 := (xS b, va_up J 61 (xfil 159 (J 68) (J 61)), L, xP b)) rfl trivial ?_
      refine xw_if (fun c_52 => ?_) (fun c_52 => ?_)
      · skip
        refine xw_go xb_155 1 (f1 := (61, [.ref 60, .int (nI 100)], [.int (-4)])) (h1 := (xS b, va_up J 61 (xfil 159 (J 68) (J 61)), L, xP b)) rfl trivial ?_
        refine xw_ret xb_155 rfl rfl trivial ?_
        refine ⟨rfl, _, rfl, xMF_v j1 (by decide), xML_N hM (fun k hk => ?_) ?_ ?_⟩
        · rw [show ∀ (f : Nat → Nat → Int32) (g : Nat → Int32), va_up f 61 g 61 = g from fun f g => by simp [va_up]]
          unfold xfil
          rw [if_pos hk, j2]
          unfold xfil
          rw [if_pos hk]
          exact hM.1 k hk
        · rw [xm_vu_o (by decide), j4]
        · rw [xm_vu_o (by decide), j3]
      · skip
        exfalso
        simp (disch := omega) only [xl_100, nI_leI] at c_52
        omega
    · skip
      exfalso
      simp (disch := omega) only [xl_100, nI_leI] at c_25
      omega
  · refine ⟨_, rfl, xMF_v (xMF_v (xMF_r I) (by decide)) (by decide), rfl, rfl, rfl, ?_, fun j hj => hX j hj⟩
    rw [xgoN_z hO]
    exact fun k hk => hM.1 k hk

