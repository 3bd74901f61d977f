/-! ===== calls: minutes, drift ===== -/
theorem xgoN_z {N : Nat → Nat} (hO : xOK N) (fv : Nat → Nat) : xgoN N fv 0 = N := by
  funext k
  by_cases h : k < 159
  · exact xgoN_0 hO fv h
  · unfold xgoN
    have := xce_le hO
    rw [if_neg (by omega), if_neg (by omega), if_neg (by omega)]
theorem xgoN_f {N : Nat → Nat} (hO : xOK N) (fv : Nat → Nat) (n : Nat) : xgo (xgoN N fv n) fv = xgoN N fv (n + 1) := funext fun k => xgoN_s hO fv n k
theorem xgoN_tk {N : Nat → Nat} (hO : xOK N) (fv : Nat → Nat) (n : Nat) {j : Nat} (hj : j < N 0 * N 1) : xtk fv (xso (xgoN N fv n)) (xgoN N fv n 1) j = xtk fv (xso N) (N 1) j := by
  rw [xgoN_lo N fv n (k := 1) (by decide) (by decide) (by decide)]
  exact xtk_congr (xgoN_so hO fv n) (by have := hO.1; omega) hj
theorem xgoN_ls {N : Nat → Nat} (hO : xOK N) (fv : Nat → Nat) (n : Nat) : xlost fv (xso (xgoN N fv n)) (xgoN N fv n 0) (xgoN N fv n 1) = xlost fv (xso N) (N 0) (N 1) := by
  rw [xgoN_lo N fv n (k := 1) (by decide) (by decide) (by decide), xgoN_lo N fv n (k := 0) (by decide) (by decide) (by decide)]
  exact xlost_congr (xgoN_so hO fv n)
theorem xUK_N {N N' : Nat → Nat} {u : Nat} {U : Nat → Nat → Nat} (hK : xUK N u U) (hO : xOK N') (h4 : N' 4 ≤ 9999) (h0 : N' 0 = N 0) (h1 : N' 1 = N 1) (h2 : N' 2 = N 2) : xUK N' u U := ⟨hO, h4, hK.2.2.1, by rw [h0, h1, h2]; exact hK.2.2.2⟩
/-- what may be undone behind n steps -/
def xUn (F : Nat → Nat → Nat) (u : Nat) (U : Nat → Nat → Nat) : Nat → Nat → Nat → Nat
  | 0 => U
  | n + 1 => xpsh (F n) (min 8 (u + n)) (xUn F u U n)
theorem xUn_uk {F : Nat → Nat → Nat} {u n : Nat} {U : Nat → Nat → Nat} (h0 : xUK (F 0) u U) (hs : ∀ c, c < n → xOK (F (c + 1)) ∧ F (c + 1) 4 ≤ 9999 ∧ F (c + 1) 0 = F c 0 ∧ F (c + 1) 1 = F c 1 ∧ F (c + 1) 2 = F c 2) : ∀ c, c ≤ n → xUK (F c) (min 8 (u + c)) (xUn F u U c)
  | 0, _ => by
    have : min 8 (u + 0) = u := by have := h0.2.2.1; omega
    rw [this]
    exact h0
  | c + 1, hc => by
    have h1 := xpsh_uk (xUn_uk h0 hs c (by omega))
    obtain ⟨s1, s2, s3, s4, s5⟩ := hs c (by omega)
    have h2 := xUK_N h1 s1 s2 s3 s4 s5
    have e : min 8 (min 8 (u + c) + 1) = min 8 (u + (c + 1)) := by omega
    rw [e] at h2
    exact h2
theorem xgo_1 {N : Nat → Nat} (hO : xOK N) (fv : Nat → Nat) : xgo N fv = xgoN N fv 1 := by
  have := xgoN_f hO fv 0
  rw [xgoN_z hO] at this
  exact this
theorem xgo_ok {N : Nat → Nat} (hO : xOK N) (fv : Nat → Nat) (h4 : N 4 + 1 < 1000000) : xOK (xgo N fv) := by
  rw [xgo_1 hO]
  exact xgoN_ok hO fv h4
theorem xmn_uk {N : Nat → Nat} {u n : Nat} {U : Nat → Nat → Nat} (hK : xUK N u U) (fv : Nat → Nat) (hn : N 4 + n ≤ 9999) : ∀ c, c ≤ n → xUK (xgoN N fv c) (min 8 (u + c)) (xUn (xgoN N fv) u U c) := by
  refine xUn_uk (by rw [xgoN_z hK.1]; exact hK) fun c hc => ⟨xgoN_ok hK.1 fv (by omega), ?_, ?_, ?_, ?_⟩
  · show N 4 + (c + 1) ≤ 9999
    omega
  · rw [xgoN_lo N fv _ (k := 0) (by decide) (by decide) (by decide), xgoN_lo N fv _ (k := 0) (by decide) (by decide) (by decide)]
  · rw [xgoN_lo N fv _ (k := 1) (by decide) (by decide) (by decide), xgoN_lo N fv _ (k := 1) (by decide) (by decide) (by decide)]
  · rw [xgoN_lo N fv _ (k := 2) (by decide) (by decide) (by decide), xgoN_lo N fv _ (k := 2) (by decide) (by decide) (by decide)]
theorem xm8 (u c : Nat) : min 8 (min 8 (u + c) + 1) = min 8 (u + (c + 1)) := by omega
theorem c_minutes0 {d : Nat} {b : Bool} {I : Nat → Nat → Int32} {L : Nat → Nat → Int64} {N : Nat → Nat} {u : Nat} {U : Nat → Nat → Nat} (hP : xPL N u U 1 I) (hK : xUK N u U) {x : Int32} (hx : ¬ (1 ≤ x.toInt ∧ x.toInt ≤ 60)) : xm_Z (d + 5) 58 [.ref 0, .int x] (xS b, I, L, xP b) (fun rz hz => xQC b I L (-1) N u U rz hz) := by
  refine xw_S xb_58 (l := [.ref 0, .int x, .float 0]) (Nat.le_of_ble_eq_true rfl) rfl ?_
  refine xw_go xb_58 3 (f1 := (4, [.ref 0, .int x, .float 0], [.int 60, .int 1, .int x])) (h1 := (xS b, I, L, xP b)) rfl trivial ?_
  refine xw_call xb_58 rfl rfl rfl rfl rfl (Or.inl rfl) c_within ?_
  rintro _ _ ⟨rfl, rfl⟩
  refine xw_at (f' := (7, [.ref 0, .int x, .float 0], [.int (nI (xB (decide ((1 : Int32).toInt ≤ x.toInt ∧ x.toInt ≤ (60 : Int32).toInt))))])) (h' := (xS b, I, L, xP b)) rfl rfl ?_
  refine xw_go xb_58 1 (f1 := (if ¬ (nI (xB (decide ((1 : Int32).toInt ≤ x.toInt ∧ x.toInt ≤ (60 : Int32).toInt)))) = 0 then 12 else 10, [.ref 0, .int x, .float 0], [])) (h1 := (xS b, I, L, xP b)) rfl trivial ?_
  refine xw_if (fun c_7 => ?_) (fun c_7 => ?_)
  · skip
    exfalso
    try simp only [xB_dec, Classical.not_not] at c_7
    try simp (disch := omega) only [xt_eq, xt_lt, xt_le, xkt_0, xkt_1, xkt_2, xkt_3, xkt_4, xkt_5, xkt_6, xkt_7, xkt_8, xkt_9, xkt_10, xkt_11, xkt_12, xkt_13, xkt_14, xkt_16, xkt_20, xkt_24, xkt_31, xkt_32, xkt_40, xkt_44, xkt_47, xkt_48, xkt_57, xkt_59, xkt_60, xkt_63, xkt_64, xkt_65, xkt_72, xkt_95, xkt_99, xkt_100, xkt_101, xkt_103, xkt_110, xkt_112, xkt_113, xkt_114, xkt_119, xkt_126, xkt_159, xkt_576, xkt_999, xkt_9999, xkt_65536, xkt_999999, xkt_m1, xkt_m2, xkt_m3, xkt_m4, xkt_m11, xkt_m12, xkt_m13, xkt_m14, xkt_m20, xjt_0, xjt_1, xjt_2, xjt_3, xjt_4, xjt_5, xjt_6, xjt_7, xjt_8, xjt_9, xjt_10, xjt_11, xjt_12, xjt_13, xjt_14, xjt_16, xjt_20, xjt_24, xjt_31, xjt_32, xjt_40, xjt_44, xjt_47, xjt_48, xjt_57, xjt_59, xjt_60, xjt_63, xjt_64, xjt_65, xjt_72, xjt_95, xjt_99, xjt_100, xjt_101, xjt_103, xjt_110, xjt_112, xjt_113, xjt_114, xjt_119, xjt_126, xjt_159, xjt_576, xjt_999, xjt_9999, xjt_65536, xjt_999999, xt64, xt_n, not_true_eq_false, not_false_eq_true, Classical.not_not] at c_7
    all_goals omega
  · skip
    refine xw_go xb_58 1 (f1 := (11, [.ref 0, .int x, .float 0], [.int (-1)])) (h1 := (xS b, I, L, xP b)) rfl trivial ?_
    refine xw_ret xb_58 rfl rfl trivial ?_
    exact xQC_same hP

theorem c_minutes1 {d : Nat} {b : Bool} {I : Nat → Nat → Int32} {L : Nat → Nat → Int64} {N : Nat → Nat} {u : Nat} {U : Nat → Nat → Nat} (hP : xPL N u U 1 I) (hK : xUK N u U) {n : Nat} (hn : 1 ≤ n ∧ n ≤ 60) (hf : 9999 < N 4 + n) {x : Int32} (e_x : x = nI n) : xm_Z (d + 5) 58 [.ref 0, .int x] (xS b, I, L, xP b) (fun rz hz => xQC b I L (-3) N u U rz hz) := by
  subst e_x
  have hO := hK.1
  have hb := hK.1.1
  have c64 : N 0 * N 1 ≤ 64 := xce_le hO
  have c4 : 4 ≤ N 0 * N 1 := xce_ge hO
  obtain ⟨⟨hN0, hN1, hN2, hN3, hN4, hN5, hN6, hN7, hN8, hN9, hN10⟩, hNs, hNw, hNp⟩ := hP.1
  refine xw_S xb_58 (l := [.ref 0, .int (nI n), .float 0]) (Nat.le_of_ble_eq_true rfl) rfl ?_
  refine xw_go xb_58 3 (f1 := (4, [.ref 0, .int (nI n), .float 0], [.int 60, .int 1, .int (nI n)])) (h1 := (xS b, I, L, xP b)) rfl trivial ?_
  refine xw_call xb_58 rfl rfl rfl rfl rfl (Or.inl rfl) c_within ?_
  rintro _ _ ⟨rfl, rfl⟩
  refine xw_at (f' := (7, [.ref 0, .int (nI n), .float 0], [.int (nI (xB (decide ((1 : Int32).toInt ≤ (nI n).toInt ∧ (nI n).toInt ≤ (60 : Int32).toInt))))])) (h' := (xS b, I, L, xP b)) rfl rfl ?_
  refine xw_go xb_58 1 (f1 := (if ¬ (nI (xB (decide ((1 : Int32).toInt ≤ (nI n).toInt ∧ (nI n).toInt ≤ (60 : Int32).toInt)))) = 0 then 12 else 10, [.ref 0, .int (nI n), .float 0], [])) (h1 := (xS b, I, L, xP b)) rfl trivial ?_
  refine xw_if (fun c_7 => ?_) (fun c_7 => ?_)
  · skip
    refine xw_go xb_58 7 (f1 := (if ((I 1 11) + (nI n)) ≤ 9999 then 30 else 27, [.ref 0, .int (nI n), .float 0], [])) (h1 := (xS b, I, L, xP b)) rfl ⟨rfl, rfl, trivial⟩ ?_
    refine xw_if (fun c_24 => ?_) (fun c_24 => ?_)
    · skip
      exfalso
      rw [hN4, nI_add, xl_9999, nI_leI (by omega) (by omega)] at c_24
      omega
    · skip
      refine xw_go xb_58 1 (f1 := (29, [.ref 0, .int (nI n), .float 0], [.int (-3)])) (h1 := (xS b, I, L, xP b)) rfl trivial ?_
      refine xw_ret xb_58 rfl rfl trivial ?_
      exact xQC_same hP
  · skip
    exfalso
    try simp only [xB_dec, Classical.not_not] at c_7
    try simp (disch := omega) only [xt_eq, xt_lt, xt_le, xkt_0, xkt_1, xkt_2, xkt_3, xkt_4, xkt_5, xkt_6, xkt_7, xkt_8, xkt_9, xkt_10, xkt_11, xkt_12, xkt_13, xkt_14, xkt_16, xkt_20, xkt_24, xkt_31, xkt_32, xkt_40, xkt_44, xkt_47, xkt_48, xkt_57, xkt_59, xkt_60, xkt_63, xkt_64, xkt_65, xkt_72, xkt_95, xkt_99, xkt_100, xkt_101, xkt_103, xkt_110, xkt_112, xkt_113, xkt_114, xkt_119, xkt_126, xkt_159, xkt_576, xkt_999, xkt_9999, xkt_65536, xkt_999999, xkt_m1, xkt_m2, xkt_m3, xkt_m4, xkt_m11, xkt_m12, xkt_m13, xkt_m14, xkt_m20, xjt_0, xjt_1, xjt_2, xjt_3, xjt_4, xjt_5, xjt_6, xjt_7, xjt_8, xjt_9, xjt_10, xjt_11, xjt_12, xjt_13, xjt_14, xjt_16, xjt_20, xjt_24, xjt_31, xjt_32, xjt_40, xjt_44, xjt_47, xjt_48, xjt_57, xjt_59, xjt_60, xjt_63, xjt_64, xjt_65, xjt_72, xjt_95, xjt_99, xjt_100, xjt_101, xjt_103, xjt_110, xjt_112, xjt_113, xjt_114, xjt_119, xjt_126, xjt_159, xjt_576, xjt_999, xjt_9999, xjt_65536, xjt_999999, xt64, xt_n, not_true_eq_false, not_false_eq_true, Classical.not_not] at c_7
    all_goals omega

set_option maxHeartbeats 4000000 in
theorem c_minutes2 {d : Nat} {b : Bool} {I : Nat → Nat → Int32} {L : Nat → Nat → Int64} {N : Nat → Nat} {u : Nat} {U : Nat → Nat → Nat} (hP : xPL N u U 1 I) (hK : xUK N u U) {n : Nat} (hn : 1 ≤ n ∧ n ≤ 60) (hf : N 4 + n ≤ 9999) {x : Int32} (e_x : x = nI n) : xm_Z (d + 5) 58 [.ref 0, .int x] (xS b, I, L, xP b) (fun rz hz => xQC b I L (nI (xwc (xgoN N (xfa N (N 3) (N 5)) n))) (xgoN N (xfa N (N 3) (N 5)) n) (min 8 (u + n)) (xUn (xgoN N (xfa N (N 3) (N 5))) u U n) rz hz) := by
  subst e_x
  have hO := hK.1
  have hb := hK.1.1
  have c64 : N 0 * N 1 ≤ 64 := xce_le hO
  have c4 : 4 ≤ N 0 * N 1 := xce_ge hO
  obtain ⟨⟨hN0, hN1, hN2, hN3, hN4, hN5, hN6, hN7, hN8, hN9, hN10⟩, hNs, hNw, hNp⟩ := hP.1
  have kk := xmn_uk hK (xfa N (N 3) (N 5)) hf
  refine xw_S xb_58 (l := [.ref 0, .int (nI n), .float 0]) (Nat.le_of_ble_eq_true rfl) rfl ?_
  refine xw_go xb_58 3 (f1 := (4, [.ref 0, .int (nI n), .float 0], [.int 60, .int 1, .int (nI n)])) (h1 := (xS b, I, L, xP b)) rfl trivial ?_
  refine xw_call xb_58 rfl rfl rfl rfl rfl (Or.inl rfl) c_within ?_
  rintro _ _ ⟨rfl, rfl⟩
  refine xw_at (f' := (7, [.ref 0, .int (nI n), .float 0], [.int (nI (xB (decide ((1 : Int32).toInt ≤ (nI n).toInt ∧ (nI n).toInt ≤ (60 : Int32).toInt))))])) (h' := (xS b, I, L, xP b)) rfl rfl ?_
  refine xw_go xb_58 1 (f1 := (if ¬ (nI (xB (decide ((1 : Int32).toInt ≤ (nI n).toInt ∧ (nI n).toInt ≤ (60 : Int32).toInt)))) = 0 then 12 else 10, [.ref 0, .int (nI n), .float 0], [])) (h1 := (xS b, I, L, xP b)) rfl trivial ?_
  refine xw_if (fun c_7 => ?_) (fun c_7 => ?_)
  · skip
    refine xw_go xb_58 7 (f1 := (if ((I 1 11) + (nI n)) ≤ 9999 then 30 else 27, [.ref 0, .int (nI n), .float 0], [])) (h1 := (xS b, I, L, xP b)) rfl ⟨rfl, rfl, trivial⟩ ?_
    refine xw_if (fun c_24 => ?_) (fun c_24 => ?_)
    · skip
      refine xw_go xb_58 10 (f1 := (52, [.ref 0, .int (nI n), .float 0], [.int (I 1 7), .int (I 1 6), .ref 1, .ref 20])) (h1 := (xS b, I, L, xP b)) rfl ⟨rfl, rfl, rfl, rfl, rfl, rfl, trivial⟩ ?_
      refine xw_call xb_58 rfl rfl rfl rfl rfl (Or.inr ⟨_, _, rfl, rfl⟩) (c_run (I := I) hP.1 hO (o := N 3) (wi := N 5) (xOn32 hO) (by omega) hN3 hN5) ?_
      rintro _ _ ⟨rfl, F, X, T, hF, hT, rfl⟩
      refine xw_at (f' := (55, [.ref 0, .int (nI n), .float 0], [])) (h' := (xS b, xm_up (va_up (va_up (va_up I 21 F) 23 X) 22 T) 20 3 (nI (xlo N (N 3) (N 5))), L, xP b)) rfl rfl ?_
      refine xw_go xb_58 2 (f1 := (57, [.ref 0, .int (nI n), .int 0], [])) (h1 := (xS b, xm_up (va_up (va_up (va_up I 21 F) 23 X) 22 T) 20 3 (nI (xlo N (N 3) (N 5))), L, xP b)) rfl trivial ?_
      refine xw_loopP n (fun c => (57, [.ref 0, .int (nI n), .int (nI c)], [])) (fun c h => ∃ J, h = (xS b, J, L, xP b) ∧ xPF I J ∧ xPL (xgoN N (xfa N (N 3) (N 5)) c) (min 8 (u + c)) (xUn (xgoN N (xfa N (N 3) (N 5))) u U c) 1 J ∧ (∀ j, j < N 0 * N 1 → J 22 j = nI (xtk (xfa N (N 3) (N 5)) (xso N) (N 1) j)) ∧ J 20 3 = nI (xlost (xfa N (N 3) (N 5)) (xso N) (N 0) (N 1))) (fun c h hc hV ih => ?_) (fun h hV => ?_) 0 _ (Nat.zero_le _) ?_
      · obtain ⟨J, rfl, j1, j2, j3, j4⟩ := hV
        refine xw_go xb_58 3 (f1 := (if (nI n) ≤ (nI c) then 86 else 62, [.ref 0, .int (nI n), .int (nI c)], [])) (h1 := (xS b, J, L, xP b)) rfl trivial ?_
        refine xw_if (fun c_59 => ?_) (fun c_59 => ?_)
        · skip
          exfalso
          simp (disch := omega) only [nI_leI] at c_59
          omega
        · skip
          refine xw_go xb_58 2 (f1 := (66, [.ref 0, .int (nI n), .int (nI c)], [.ref 1])) (h1 := (xS b, J, L, xP b)) rfl ⟨rfl, trivial⟩ ?_
          refine xw_call xb_58 rfl rfl rfl rfl rfl (Or.inr ⟨_, _, rfl, rfl⟩) (c_rem (I := J) j2 (kk c (by omega))) ?_
          rintro _ _ ⟨rfl, J1, rfl, g1, g2⟩
          refine xw_at (f' := (69, [.ref 0, .int (nI n), .int (nI c)], [])) (h' := (xS b, J1, L, xP b)) rfl rfl ?_
          refine xw_go xb_58 4 (f1 := (77, [.ref 0, .int (nI n), .int (nI c)], [.ref 20, .ref 1])) (h1 := (xS b, J1, L, xP b)) rfl ⟨rfl, rfl, trivial⟩ ?_
          refine xw_call xb_58 rfl rfl rfl rfl rfl (Or.inr ⟨_, _, rfl, rfl⟩) (c_passMinute (I := J1) (N := (xgoN N (xfa N (N 3) (N 5)) c)) g2.1 (kk c (by omega)).1 (fv := (xfa N (N 3) (N 5))) (fun j hj => by have hj2 : j < N 0 * N 1 := hj; rw [g1 22 (by omega), j3 j hj2, xgoN_tk hO _ _ hj2]) (fun j hj => by have hj2 : j < N 0 * N 1 := hj; rw [xgoN_tk hO _ _ hj2]; have := xta_le hO (o := N 3) (wi := N 5) hj2; unfold xta at this; omega) (by rw [g1 20 (by omega), j4, xgoN_ls hO]) (by rw [xgoN_ls hO]; have := xlo_le hO (N 3) (N 5); unfold xlo at this; omega)) ?_
          rintro _ _ ⟨rfl, J2, rfl, f1, f2⟩
          refine xw_at (f' := (80, [.ref 0, .int (nI n), .int (nI c)], [])) (h' := (xS b, J2, L, xP b)) rfl rfl ?_
          refine xw_go xb_58 2 (f1 := (57, [.ref 0, .int (nI n), .int ((nI c) + 1)], [])) (h1 := (xS b, J2, L, xP b)) rfl trivial ?_
          have q : ∀ a, a ≠ 1 → a ≠ 3 → J2 a = J1 a := fun a h1 h3 => f1 a (by simp only [List.mem_cons, List.not_mem_nil, or_false, not_or]; exact ⟨h1, h3⟩)
          have e2 : xPL (xgo (xgoN N (xfa N (N 3) (N 5)) c) (xfa N (N 3) (N 5))) (min 8 (min 8 (u + c) + 1)) (xpsh (xgoN N (xfa N (N 3) (N 5)) c) (min 8 (u + c)) (xUn (xgoN N (xfa N (N 3) (N 5))) u U c)) 1 J2 := xPL_N g2 f2 rfl (fun a h1 h2 => q a (by omega) (by omega))
          rw [xm8, xgoN_f hO] at e2
          refine xw_cong ?_ rfl rfl (ih _ ⟨J2, rfl, xPF_t (xPF_t j1 (fun a ha => g1 a (by omega))) (fun a ha => q a (by omega) (by omega)), e2, fun j hj => ?_, ?_⟩)
          · rw [nI_1]
          · rw [q 22 (by decide) (by decide), g1 22 (by omega)]
            exact j3 j hj
          · rw [q 20 (by decide) (by decide), g1 20 (by omega)]
            exact j4
      · obtain ⟨J, rfl, j1, j2, j3, j4⟩ := hV
        refine xw_go xb_58 3 (f1 := (if (nI n) ≤ (nI n) then 86 else 62, [.ref 0, .int (nI n), .int (nI n)], [])) (h1 := (xS b, J, L, xP b)) rfl trivial ?_
        refine xw_if (fun c_59 => ?_) (fun c_59 => ?_)
        · skip
          refine xw_go xb_58 5 (f1 := (97, [.ref 0, .int (nI n), .int (nI n)], [.ref 3, .ref 1])) (h1 := (xS b, J, L, xP b)) rfl ⟨rfl, rfl, rfl, trivial⟩ ?_
          refine xw_call xb_58 rfl rfl rfl rfl rfl (Or.inr ⟨_, _, rfl, rfl⟩) (c_wrongIn (I := J) (R := (xgoN N (xfa N (N 3) (N 5)) n) 0) (C := (xgoN N (xfa N (N 3) (N 5)) n) 1) j2.1.1.1 j2.1.1.2.1 (by have := (kk n (Nat.le_refl n)).1.1; omega) (by have := (kk n (Nat.le_refl n)).1.1; omega) (so := fun c => (xgoN N (xfa N (N 3) (N 5)) n) (31 + c)) (wt := fun c => (xgoN N (xfa N (N 3) (N 5)) n) (95 + c)) j2.1.2.1 (kk n (Nat.le_refl n)).1.2.1 (w := 3) rfl (fun c hc => j2.1.2.2.1 c (by have : (xgoN N (xfa N (N 3) (N 5)) n) 0 * (xgoN N (xfa N (N 3) (N 5)) n) 1 ≤ 64 := xce_le (kk n (Nat.le_refl n)).1; omega)) (fun c hc => by have h6 : (xgoN N (xfa N (N 3) (N 5)) n) 0 * (xgoN N (xfa N (N 3) (N 5)) n) 1 ≤ 64 := xce_le (kk n (Nat.le_refl n)).1; have := (kk n (Nat.le_refl n)).1.2.2.1 c (by omega); show (xgoN N (xfa N (N 3) (N 5)) n) (95 + c) < _; omega) j2.1.1.2.2.2.2.2.2.2.1 (by have := (kk n (Nat.le_refl n)).1.1; omega) j2.1.1.2.2.2.2.2.2.2.2.1 (by have := (kk n (Nat.le_refl n)).1.1; omega)) ?_
          rintro _ _ ⟨rfl, rfl⟩
          refine xw_at (f' := (100, [.ref 0, .int (nI n), .int (nI n)], [.int (nI (xwc (xgoN N (xfa N (N 3) (N 5)) n)))])) (h' := (xS b, J, L, xP b)) rfl rfl ?_
          refine xw_ret xb_58 rfl rfl trivial ?_
          exact ⟨rfl, J, rfl, j1, j2⟩
        · skip
          exfalso
          simp (disch := omega) only [nI_leI] at c_59
          omega
      · have e0 : min 8 (u + 0) = u := by have := hK.2.2.1; omega
        refine ⟨_, rfl, xPF_u (xPF_v (xPF_v (xPF_v (xPF_r I) (by decide)) (by decide)) (by decide)) (by decide), ?_, fun j hj => hT j hj, rfl⟩
        rw [e0, xgoN_z hO]
        exact xPL_fr (by omega) hP fun a h1 h2 => by rw [xm_up_o (by omega), xm_vu_o (by omega), xm_vu_o (by omega), xm_vu_o (by omega)]
    · skip
      exfalso
      rw [hN4, nI_add, xl_9999, nI_leI (by omega) (by omega)] at c_24
      omega
  · skip
    exfalso
    try simp only [xB_dec, Classical.not_not] at c_7
    try simp (disch := omega) only [xt_eq, xt_lt, xt_le, xkt_0, xkt_1, xkt_2, xkt_3, xkt_4, xkt_5, xkt_6, xkt_7, xkt_8, xkt_9, xkt_10, xkt_11, xkt_12, xkt_13, xkt_14, xkt_16, xkt_20, xkt_24, xkt_31, xkt_32, xkt_40, xkt_44, xkt_47, xkt_48, xkt_57, xkt_59, xkt_60, xkt_63, xkt_64, xkt_65, xkt_72, xkt_95, xkt_99, xkt_100, xkt_101, xkt_103, xkt_110, xkt_112, xkt_113, xkt_114, xkt_119, xkt_126, xkt_159, xkt_576, xkt_999, xkt_9999, xkt_65536, xkt_999999, xkt_m1, xkt_m2, xkt_m3, xkt_m4, xkt_m11, xkt_m12, xkt_m13, xkt_m14, xkt_m20, xjt_0, xjt_1, xjt_2, xjt_3, xjt_4, xjt_5, xjt_6, xjt_7, xjt_8, xjt_9, xjt_10, xjt_11, xjt_12, xjt_13, xjt_14, xjt_16, xjt_20, xjt_24, xjt_31, xjt_32, xjt_40, xjt_44, xjt_47, xjt_48, xjt_57, xjt_59, xjt_60, xjt_63, xjt_64, xjt_65, xjt_72, xjt_95, xjt_99, xjt_100, xjt_101, xjt_103, xjt_110, xjt_112, xjt_113, xjt_114, xjt_119, xjt_126, xjt_159, xjt_576, xjt_999, xjt_9999, xjt_65536, xjt_999999, xt64, xt_n, not_true_eq_false, not_false_eq_true, Classical.not_not] at c_7
    all_goals omega

theorem m_minutes0 {d : Nat} {b : Bool} {I : Nat → Nat → Int32} {L : Nat → Nat → Int64} {N : Nat → Nat} {u : Nat} {U : Nat → Nat → Nat} (hM : xML N u U I) (hK : xUK N u U) {x : Int32} (hx : ¬ (1 ≤ x.toInt ∧ x.toInt ≤ 60)) : xm_Z (d + 5) 141 [.ref 60, .int x] (xS b, I, L, xP b) (fun rz hz => xQM b I L (-1) N u U rz hz) := by
  refine xw_S xb_141 (l := [.ref 60, .int x, .float 0]) (Nat.le_of_ble_eq_true rfl) rfl ?_
  refine xw_go xb_141 4 (f1 := (6, [.ref 60, .int x, .float 0], [.long 60, .long 1, .long x.toInt64])) (h1 := (xS b, I, L, xP b)) rfl trivial ?_
  refine xw_call xb_141 rfl rfl rfl rfl rfl (Or.inl rfl) m_in ?_
  rintro _ _ ⟨rfl, rfl⟩
  refine xw_at (f' := (9, [.ref 60, .int x, .float 0], [.int (nI (xB (decide ((1 : Int64).toInt ≤ x.toInt64.toInt ∧ x.toInt64.toInt ≤ (60 : Int64).toInt))))])) (h' := (xS b, I, L, xP b)) rfl rfl ?_
  refine xw_go xb_141 1 (f1 := (if ¬ (nI (xB (decide ((1 : Int64).toInt ≤ x.toInt64.toInt ∧ x.toInt64.toInt ≤ (60 : Int64).toInt)))) = 0 then 14 else 12, [.ref 60, .int x, .float 0], [])) (h1 := (xS b, I, L, xP b)) rfl trivial ?_
  refine xw_if (fun c_9 => ?_) (fun c_9 => ?_)
  · skip
    exfalso
    try simp only [xB_dec, Classical.not_not] at c_9
    try simp (disch := omega) only [xt_eq, xt_lt, xt_le, xkt_0, xkt_1, xkt_2, xkt_3, xkt_4, xkt_5, xkt_6, xkt_7, xkt_8, xkt_9, xkt_10, xkt_11, xkt_12, xkt_13, xkt_14, xkt_16, xkt_20, xkt_24, xkt_31, xkt_32, xkt_40, xkt_44, xkt_47, xkt_48, xkt_57, xkt_59, xkt_60, xkt_63, xkt_64, xkt_65, xkt_72, xkt_95, xkt_99, xkt_100, xkt_101, xkt_103, xkt_110, xkt_112, xkt_113, xkt_114, xkt_119, xkt_126, xkt_159, xkt_576, xkt_999, xkt_9999, xkt_65536, xkt_999999, xkt_m1, xkt_m2, xkt_m3, xkt_m4, xkt_m11, xkt_m12, xkt_m13, xkt_m14, xkt_m20, xjt_0, xjt_1, xjt_2, xjt_3, xjt_4, xjt_5, xjt_6, xjt_7, xjt_8, xjt_9, xjt_10, xjt_11, xjt_12, xjt_13, xjt_14, xjt_16, xjt_20, xjt_24, xjt_31, xjt_32, xjt_40, xjt_44, xjt_47, xjt_48, xjt_57, xjt_59, xjt_60, xjt_63, xjt_64, xjt_65, xjt_72, xjt_95, xjt_99, xjt_100, xjt_101, xjt_103, xjt_110, xjt_112, xjt_113, xjt_114, xjt_119, xjt_126, xjt_159, xjt_576, xjt_999, xjt_9999, xjt_65536, xjt_999999, xt64, xt_n, not_true_eq_false, not_false_eq_true, Classical.not_not] at c_9
    all_goals omega
  · skip
    refine xw_go xb_141 1 (f1 := (13, [.ref 60, .int x, .float 0], [.int (-1)])) (h1 := (xS b, I, L, xP b)) rfl trivial ?_
    refine xw_ret xb_141 rfl rfl trivial ?_
    exact xQM_same hM

theorem m_minutes1 {d : Nat} {b : Bool} {I : Nat → Nat → Int32} {L : Nat → Nat → Int64} {N : Nat → Nat} {u : Nat} {U : Nat → Nat → Nat} (hM : xML N u U I) (hK : xUK N u U) {n : Nat} (hn : 1 ≤ n ∧ n ≤ 60) (hf : 9999 < N 4 + n) {x : Int32} (e_x : x = nI n) : xm_Z (d + 5) 141 [.ref 60, .int x] (xS b, I, L, xP b) (fun rz hz => xQM b I L (-3) N u U rz hz) := by
  subst e_x
  have hO := hK.1
  have hb := hK.1.1
  have c64 : N 0 * N 1 ≤ 64 := xce_le hO
  have c4 : 4 ≤ N 0 * N 1 := xce_ge hO
  refine xw_S xb_141 (l := [.ref 60, .int (nI n), .float 0]) (Nat.le_of_ble_eq_true rfl) rfl ?_
  refine xw_go xb_141 4 (f1 := (6, [.ref 60, .int (nI n), .float 0], [.long 60, .long 1, .long ((nI n).toInt64)])) (h1 := (xS b, I, L, xP b)) rfl trivial ?_
  refine xw_call xb_141 rfl rfl rfl rfl rfl (Or.inl rfl) m_in ?_
  rintro _ _ ⟨rfl, rfl⟩
  refine xw_at (f' := (9, [.ref 60, .int (nI n), .float 0], [.int (nI (xB (decide ((1 : Int64).toInt ≤ (nI n).toInt64.toInt ∧ (nI n).toInt64.toInt ≤ (60 : Int64).toInt))))])) (h' := (xS b, I, L, xP b)) rfl rfl ?_
  refine xw_go xb_141 1 (f1 := (if ¬ (nI (xB (decide ((1 : Int64).toInt ≤ (nI n).toInt64.toInt ∧ (nI n).toInt64.toInt ≤ (60 : Int64).toInt)))) = 0 then 14 else 12, [.ref 60, .int (nI n), .float 0], [])) (h1 := (xS b, I, L, xP b)) rfl trivial ?_
  refine xw_if (fun c_9 => ?_) (fun c_9 => ?_)
  · skip
    refine xw_go xb_141 8 (f1 := (if ((I 61 (4 : Int32).toNatClampNeg) + (nI n)) ≤ 9999 then 31 else 28, [.ref 60, .int (nI n), .float 0], [])) (h1 := (xS b, I, L, xP b)) rfl ⟨rfl, (xn_ar (n := 4) (N := 159) rfl (by decide) (by decide)), trivial⟩ ?_
    refine xw_if (fun c_25 => ?_) (fun c_25 => ?_)
    · skip
      exfalso
      rw [show (4 : Int32).toNatClampNeg = 4 from rfl, hM.1 4 (by decide), nI_add, xl_9999, nI_leI (by omega) (by omega)] at c_25
      omega
    · skip
      refine xw_go xb_141 1 (f1 := (30, [.ref 60, .int (nI n), .float 0], [.int (-3)])) (h1 := (xS b, I, L, xP b)) rfl trivial ?_
      refine xw_ret xb_141 rfl rfl trivial ?_
      exact xQM_same hM
  · skip
    exfalso
    try simp only [xB_dec, Classical.not_not] at c_9
    try simp (disch := omega) only [xt_eq, xt_lt, xt_le, xkt_0, xkt_1, xkt_2, xkt_3, xkt_4, xkt_5, xkt_6, xkt_7, xkt_8, xkt_9, xkt_10, xkt_11, xkt_12, xkt_13, xkt_14, xkt_16, xkt_20, xkt_24, xkt_31, xkt_32, xkt_40, xkt_44, xkt_47, xkt_48, xkt_57, xkt_59, xkt_60, xkt_63, xkt_64, xkt_65, xkt_72, xkt_95, xkt_99, xkt_100, xkt_101, xkt_103, xkt_110, xkt_112, xkt_113, xkt_114, xkt_119, xkt_126, xkt_159, xkt_576, xkt_999, xkt_9999, xkt_65536, xkt_999999, xkt_m1, xkt_m2, xkt_m3, xkt_m4, xkt_m11, xkt_m12, xkt_m13, xkt_m14, xkt_m20, xjt_0, xjt_1, xjt_2, xjt_3, xjt_4, xjt_5, xjt_6, xjt_7, xjt_8, xjt_9, xjt_10, xjt_11, xjt_12, xjt_13, xjt_14, xjt_16, xjt_20, xjt_24, xjt_31, xjt_32, xjt_40, xjt_44, xjt_47, xjt_48, xjt_57, xjt_59, xjt_60, xjt_63, xjt_64, xjt_65, xjt_72, xjt_95, xjt_99, xjt_100, xjt_101, xjt_103, xjt_110, xjt_112, xjt_113, xjt_114, xjt_119, xjt_126, xjt_159, xjt_576, xjt_999, xjt_9999, xjt_65536, xjt_999999, xt64, xt_n, not_true_eq_false, not_false_eq_true, Classical.not_not] at c_9
    all_goals omega

set_option maxHeartbeats 4000000 in
theorem m_minutes2 {d : Nat} {b : Bool} {I : Nat → Nat → Int32} {L : Nat → Nat → Int64} {N : Nat → Nat} {u : Nat} {U : Nat → Nat → Nat} (hM : xML N u U I) (hK : xUK N u U) {n : Nat} (hn : 1 ≤ n ∧ n ≤ 60) (hf : N 4 + n ≤ 9999) {x : Int32} (e_x : x = nI n) : xm_Z (d + 5) 141 [.ref 60, .int x] (xS b, I, L, xP b) (fun rz hz => xQM b I L (nI (xwc (xgoN N (xfa N (N 3) (N 5)) n))) (xgoN N (xfa N (N 3) (N 5)) n) (min 8 (u + n)) (xUn (xgoN N (xfa N (N 3) (N 5))) u U n) rz hz) := by
  subst e_x
  have hO := hK.1
  have hb := hK.1.1
  have c64 : N 0 * N 1 ≤ 64 := xce_le hO
  have c4 : 4 ≤ N 0 * N 1 := xce_ge hO
  have kk := xmn_uk hK (xfa N (N 3) (N 5)) hf
  refine xw_S xb_141 (l := [.ref 60, .int (nI n), .float 0]) (Nat.le_of_ble_eq_true rfl) rfl ?_
  refine xw_go xb_141 4 (f1 := (6, [.ref 60, .int (nI n), .float 0], [.long 60, .long 1, .long ((nI n).toInt64)])) (h1 := (xS b, I, L, xP b)) rfl trivial ?_
  refine xw_call xb_141 rfl rfl rfl rfl rfl (Or.inl rfl) m_in ?_
  rintro _ _ ⟨rfl, rfl⟩
  refine xw_at (f' := (9, [.ref 60, .int (nI n), .float 0], [.int (nI (xB (decide ((1 : Int64).toInt ≤ (nI n).toInt64.toInt ∧ (nI n).toInt64.toInt ≤ (60 : Int64).toInt))))])) (h' := (xS b, I, L, xP b)) rfl rfl ?_
  refine xw_go xb_141 1 (f1 := (if ¬ (nI (xB (decide ((1 : Int64).toInt ≤ (nI n).toInt64.toInt ∧ (nI n).toInt64.toInt ≤ (60 : Int64).toInt)))) = 0 then 14 else 12, [.ref 60, .int (nI n), .float 0], [])) (h1 := (xS b, I, L, xP b)) rfl trivial ?_
  refine xw_if (fun c_9 => ?_) (fun c_9 => ?_)
  · skip
    refine xw_go xb_141 8 (f1 := (if ((I 61 (4 : Int32).toNatClampNeg) + (nI n)) ≤ 9999 then 31 else 28, [.ref 60, .int (nI n), .float 0], [])) (h1 := (xS b, I, L, xP b)) rfl ⟨rfl, (xn_ar (n := 4) (N := 159) rfl (by decide) (by decide)), trivial⟩ ?_
    refine xw_if (fun c_25 => ?_) (fun c_25 => ?_)
    · skip
      refine xw_go xb_141 9 (f1 := (44, [.ref 60, .int (nI n), .float 0], [.int (I 61 (5 : Int32).toNatClampNeg), .int (I 61 (3 : Int32).toNatClampNeg), .ref 60])) (h1 := (xS b, I, L, xP b)) rfl ⟨rfl, (xn_ar (n := 3) (N := 159) rfl (by decide) (by decide)), rfl, (xn_ar (n := 5) (N := 159) rfl (by decide) (by decide)), trivial⟩ ?_
      refine xw_call xb_141 rfl rfl rfl rfl rfl (Or.inr ⟨_, _, rfl, rfl⟩) (m_rains (I := I) hM.1 hO (o := N 3) (wi := N 5) (xOn32 hO) (by omega) (hM.1 3 (by decide)) (hM.1 5 (by decide))) ?_
      rintro _ _ ⟨rfl, X, rfl, hX⟩
      refine xw_at (f' := (47, [.ref 60, .int (nI n), .float 0], [])) (h' := (xS b, va_up I 62 X, L, xP b)) rfl rfl ?_
      refine xw_go xb_141 2 (f1 := (49, [.ref 60, .int (nI n), .int 0], [])) (h1 := (xS b, va_up I 62 X, L, xP b)) rfl trivial ?_
      refine xw_loopP n (fun c => (49, [.ref 60, .int (nI n), .int (nI c)], [])) (fun c h => ∃ J, h = (xS b, J, L, xP b) ∧ xMF I J ∧ xML (xgoN N (xfa N (N 3) (N 5)) c) (min 8 (u + c)) (xUn (xgoN N (xfa N (N 3) (N 5))) u U c) J ∧ (∀ j, j < N 0 * N 1 → J 62 j = nI ((xfa N (N 3) (N 5)) j))) (fun c h hc hV ih => ?_) (fun h hV => ?_) 0 _ (Nat.zero_le _) ?_
      · obtain ⟨J, rfl, j1, j2, j3⟩ := hV
        refine xw_go xb_141 3 (f1 := (if (nI n) ≤ (nI c) then 68 else 54, [.ref 60, .int (nI n), .int (nI c)], [])) (h1 := (xS b, J, L, xP b)) rfl trivial ?_
        refine xw_if (fun c_51 => ?_) (fun c_51 => ?_)
        · skip
          exfalso
          simp (disch := omega) only [nI_leI] at c_51
          omega
        · skip
          refine xw_go xb_141 1 (f1 := (55, [.ref 60, .int (nI n), .int (nI c)], [.ref 60])) (h1 := (xS b, J, L, xP b)) rfl trivial ?_
          refine xw_call xb_141 rfl rfl rfl rfl rfl (Or.inr ⟨_, _, rfl, rfl⟩) (m_notes (I := J) j2 (kk c (by omega))) ?_
          rintro _ _ ⟨rfl, J1, rfl, g1, g3, g2⟩
          refine xw_at (f' := (58, [.ref 60, .int (nI n), .int (nI c)], [])) (h' := (xS b, J1, L, xP b)) rfl rfl ?_
          refine xw_go xb_141 1 (f1 := (59, [.ref 60, .int (nI n), .int (nI c)], [.ref 60])) (h1 := (xS b, J1, L, xP b)) rfl trivial ?_
          refine xw_call xb_141 rfl rfl rfl rfl rfl (Or.inr ⟨_, _, rfl, rfl⟩) (m_goesBy (I := J1) g2.1 (kk c (by omega)).1 (fv := (xfa N (N 3) (N 5))) (fun j hj => by have hj2 : j < N 0 * N 1 := hj; rw [g3]; exact j3 j hj2) (fun j hj => by have := xfa_le hO (N 3) (N 5) j; omega)) ?_
          rintro _ _ ⟨rfl, X1, Y1, rfl, hY⟩
          refine xw_at (f' := (62, [.ref 60, .int (nI n), .int (nI c)], [])) (h' := (xS b, va_up (va_up J1 63 X1) 61 Y1, L, xP b)) rfl rfl ?_
          refine xw_go xb_141 2 (f1 := (49, [.ref 60, .int (nI n), .int ((nI c) + 1)], [])) (h1 := (xS b, va_up (va_up J1 63 X1) 61 Y1, L, xP b)) rfl trivial ?_
          have e2 : xML (xgo (xgoN N (xfa N (N 3) (N 5)) c) (xfa N (N 3) (N 5))) (min 8 (min 8 (u + c) + 1)) (xpsh (xgoN N (xfa N (N 3) (N 5)) c) (min 8 (u + c)) (xUn (xgoN N (xfa N (N 3) (N 5))) u U c)) (va_up (va_up J1 63 X1) 61 Y1) := xML_N g2 (fun k hk => hY k hk) rfl rfl
          rw [xm8, xgoN_f hO] at e2
          refine xw_cong ?_ rfl rfl (ih _ ⟨_, rfl, xMF_v (xMF_v (xMF_t j1 g1) (by decide)) (by decide), e2, fun j hj => ?_⟩)
          · rw [nI_1]
          · rw [xm_vu_o (by decide), xm_vu_o (by decide), g3]
            exact j3 j hj
      · obtain ⟨J, rfl, j1, j2, j3⟩ := hV
        refine xw_go xb_141 3 (f1 := (if (nI n) ≤ (nI n) then 68 else 54, [.ref 60, .int (nI n), .int (nI n)], [])) (h1 := (xS b, J, L, xP b)) rfl trivial ?_
        refine xw_if (fun c_51 => ?_) (fun c_51 => ?_)
        · skip
          refine xw_go xb_141 1 (f1 := (69, [.ref 60, .int (nI n), .int (nI n)], [.ref 60])) (h1 := (xS b, J, L, xP b)) rfl trivial ?_
          refine xw_call xb_141 rfl rfl rfl rfl rfl (Or.inr ⟨_, _, rfl, rfl⟩) (m_wrongOnes (I := J) j2.1 (kk n (Nat.le_refl n)).1) ?_
          rintro _ _ ⟨rfl, rfl⟩
          refine xw_at (f' := (72, [.ref 60, .int (nI n), .int (nI n)], [.int (nI (xwc (xgoN N (xfa N (N 3) (N 5)) n)))])) (h' := (xS b, J, L, xP b)) rfl rfl ?_
          refine xw_ret xb_141 rfl rfl trivial ?_
          exact ⟨rfl, J, rfl, j1, j2⟩
        · skip
          exfalso
          simp (disch := omega) only [nI_leI] at c_51
          omega
      · have e0 : min 8 (u + 0) = u := by have := hK.2.2.1; omega
        refine ⟨_, rfl, xMF_v (xMF_r I) (by decide), ?_, fun j hj => hX j hj⟩
        rw [e0, xgoN_z hO]
        exact xml_fr hM rfl rfl rfl
    · skip
      exfalso
      rw [show (4 : Int32).toNatClampNeg = 4 from rfl, hM.1 4 (by decide), nI_add, xl_9999, nI_leI (by omega) (by omega)] at c_25
      omega
  · skip
    exfalso
    try simp only [xB_dec, Classical.not_not] at c_9
    try simp (disch := omega) only [xt_eq, xt_lt, xt_le, xkt_0, xkt_1, xkt_2, xkt_3, xkt_4, xkt_5, xkt_6, xkt_7, xkt_8, xkt_9, xkt_10, xkt_11, xkt_12, xkt_13, xkt_14, xkt_16, xkt_20, xkt_24, xkt_31, xkt_32, xkt_40, xkt_44, xkt_47, xkt_48, xkt_57, xkt_59, xkt_60, xkt_63, xkt_64, xkt_65, xkt_72, xkt_95, xkt_99, xkt_100, xkt_101, xkt_103, xkt_110, xkt_112, xkt_113, xkt_114, xkt_119, xkt_126, xkt_159, xkt_576, xkt_999, xkt_9999, xkt_65536, xkt_999999, xkt_m1, xkt_m2, xkt_m3, xkt_m4, xkt_m11, xkt_m12, xkt_m13, xkt_m14, xkt_m20, xjt_0, xjt_1, xjt_2, xjt_3, xjt_4, xjt_5, xjt_6, xjt_7, xjt_8, xjt_9, xjt_10, xjt_11, xjt_12, xjt_13, xjt_14, xjt_16, xjt_20, xjt_24, xjt_31, xjt_32, xjt_40, xjt_44, xjt_47, xjt_48, xjt_57, xjt_59, xjt_60, xjt_63, xjt_64, xjt_65, xjt_72, xjt_95, xjt_99, xjt_100, xjt_101, xjt_103, xjt_110, xjt_112, xjt_113, xjt_114, xjt_119, xjt_126, xjt_159, xjt_576, xjt_999, xjt_9999, xjt_65536, xjt_999999, xt64, xt_n, not_true_eq_false, not_false_eq_true, Classical.not_not] at c_9
    all_goals omega

/-- the draw -/
theorem xdv_ex : ∃ f : Nat → Nat, ∀ w, f w = (w * 1103515245 + 12345) % 2147483648 := ⟨fun w => (w * 1103515245 + 12345) % 2147483648, fun _ => rfl⟩
noncomputable def xdv : Nat → Nat := Classical.choose xdv_ex
theorem xdv_eq (w : Nat) : xdv w = (w * 1103515245 + 12345) % 2147483648 := Classical.choose_spec xdv_ex w
noncomputable def xdw (N : Nat → Nat) : Nat → Nat := va_up N 10 (xdv (N 10))
noncomputable def xdg (N : Nat → Nat) : Nat → Nat := xgo (xdw N) (xfa (xdw N) (N 3) (xdv (N 10) / 65536 % 4))
noncomputable def xDn (N : Nat → Nat) : Nat → Nat → Nat
  | 0 => N
  | n + 1 => xdg (xDn N n)
theorem xdv_lt (w : Nat) : xdv w < 2147483648 := by rw [xdv_eq]; exact Nat.mod_lt _ (by decide)
theorem xvu_N {N : Nat → Nat} {k v j : Nat} (h : j ≠ k) : va_up N k v j = N j := xm_vu_o h
theorem xdw_ok {N : Nat → Nat} (hO : xOK N) : xOK (xdw N) := by
  have hb := hO.1
  have h := xdv_lt (N 10)
  refine ⟨?_, fun c hc => ?_, fun c hc => ?_, fun i hi => ?_⟩
  · show 2 ≤ N 0 ∧ N 0 ≤ 8 ∧ 2 ≤ N 1 ∧ N 1 ≤ 8 ∧ N 2 ≤ 5 ∧ N 3 < 2 ^ N 2 ∧ N 4 < 1000000 ∧ N 5 ≤ 3 ∧ 1 ≤ N 6 ∧ N 6 ≤ 5 ∧ N 7 ≤ 999 ∧ N 8 ≤ 999 ∧ N 9 ≤ 999999 ∧ xdv (N 10) < 2 ^ 31
    omega
  · unfold xdw; rw [xvu_N (by omega)]; exact hO.2.1 c hc
  · unfold xdw; rw [xvu_N (by omega)]; exact hO.2.2.1 c hc
  · have hi2 : i < N 2 := hi
    unfold xdw
    simp (disch := omega) only [xvu_N]
    exact hO.2.2.2 i hi2
theorem xgo_lo {N fv : Nat → Nat} {k : Nat} (h : k < 95) (h9 : k ≠ 9) (h4 : k ≠ 4) : xgo N fv k = N k := by
  unfold xgo
  rw [if_neg (by omega), if_neg h9, if_neg h4]
theorem xdn_uk {N : Nat → Nat} {u n : Nat} {U : Nat → Nat → Nat} (hK : xUK N u U) (hn : N 4 + n ≤ 9999) : ∀ c, c ≤ n → xUK (xDn N c) (min 8 (u + c)) (xUn (xDn N) u U c) := by
  have hc4 : ∀ c, xDn N c 4 = N 4 + c := fun c => by
    induction c with
    | zero => rfl
    | succ c ih =>
      show xDn N c 4 + 1 = _
      rw [ih]
      rfl
  have ok : ∀ c, c ≤ n → xOK (xDn N c) := fun c => by
    induction c with
    | zero => exact fun _ => hK.1
    | succ c ih =>
      intro h
      exact xgo_ok (xdw_ok (ih (by omega))) _ (by show xDn N c 4 + 1 < _; rw [hc4]; omega)
  refine xUn_uk hK fun c hc => ⟨ok (c + 1) hc, by rw [hc4]; omega, rfl, rfl, rfl⟩
theorem c_drawWind {d : Nat} {b : Bool} {I : Nat → Nat → Int32} {L : Nat → Nat → Int64} {w : Nat} (hw : I 1 13 = nI w) : xm_Z (d + 1) 67 [.ref 1] (xS b, I, L, xP b) (fun rz hz => rz = some (.int (nI (xdv w / 65536 % 4))) ∧ hz = (xS b, xm_up I 1 13 (nI (xdv w)), L, xP b)) := by
  refine xw_S xb_67 (l := [.ref 1]) (Nat.le_of_ble_eq_true rfl) rfl ?_
  refine xw_go xb_67 10 (f1 := (18, [.ref 1], [])) (h1 := (xS b, xm_up I 1 13 ((((I 1 13) * 1103515245) + 12345) &&& 2147483647), L, xP b)) rfl ⟨rfl, rfl, trivial⟩ ?_
  refine xw_at (f' := (18, [.ref 1], [])) (h' := (xS b, xm_up I 1 13 (nI (xdv w)), L, xP b)) rfl (show (xS b, xm_up I 1 13 ((((I 1 13) * 1103515245) + 12345) &&& 2147483647), L, xP b) = (xS b, xm_up I 1 13 (nI (xdv w)), L, xP b) from ?_) ?_
  · refine congrArg (fun X => (xS b, xm_up I 1 13 X, L, xP b)) ?_
    rw [hw, xdraw1, xdv_eq]
  refine xw_go xb_67 6 (f1 := (27, [.ref 1], [.int ((((xm_up I 1 13 (nI (xdv w))) 1 13) / 65536) - (((xm_up I 1 13 (nI (xdv w))) 1 13) / 65536) / 4 * 4)])) (h1 := (xS b, xm_up I 1 13 (nI (xdv w)), L, xP b)) rfl ⟨rfl, (by decide), (by decide), trivial⟩ ?_
  refine xw_ret xb_67 rfl rfl trivial ?_
  refine ⟨xm_some (congrArg Value.int ?_), rfl⟩
  have h := xdv_lt w
  rw [xm_up_at, xl_65536, xl_4, xn_div (by omega) (by omega) (by omega), xn_rem (by omega) (by omega) (by omega)]

theorem c_drift0 {d : Nat} {b : Bool} {I : Nat → Nat → Int32} {L : Nat → Nat → Int64} {N : Nat → Nat} {u : Nat} {U : Nat → Nat → Nat} (hP : xPL N u U 1 I) (hK : xUK N u U) {x : Int32} (hx : ¬ (1 ≤ x.toInt ∧ x.toInt ≤ 60)) : xm_Z (d + 5) 66 [.ref 0, .int x] (xS b, I, L, xP b) (fun rz hz => xQC b I L (-1) N u U rz hz) := by
  refine xw_S xb_66 (l := [.ref 0, .int x, .float 0]) (Nat.le_of_ble_eq_true rfl) rfl ?_
  refine xw_go xb_66 3 (f1 := (4, [.ref 0, .int x, .float 0], [.int 60, .int 1, .int x])) (h1 := (xS b, I, L, xP b)) rfl trivial ?_
  refine xw_call xb_66 rfl rfl rfl rfl rfl (Or.inl rfl) c_within ?_
  rintro _ _ ⟨rfl, rfl⟩
  refine xw_at (f' := (7, [.ref 0, .int x, .float 0], [.int (nI (xB (decide ((1 : Int32).toInt ≤ x.toInt ∧ x.toInt ≤ (60 : Int32).toInt))))])) (h' := (xS b, I, L, xP b)) rfl rfl ?_
  refine xw_go xb_66 1 (f1 := (if ¬ (nI (xB (decide ((1 : Int32).toInt ≤ x.toInt ∧ x.toInt ≤ (60 : Int32).toInt)))) = 0 then 12 else 10, [.ref 0, .int x, .float 0], [])) (h1 := (xS b, I, L, xP b)) rfl trivial ?_
  refine xw_if (fun c_7 => ?_) (fun c_7 => ?_)
  · skip
    exfalso
    try simp only [xB_dec, Classical.not_not] at c_7
    try simp (disch := omega) only [xt_eq, xt_lt, xt_le, xkt_0, xkt_1, xkt_2, xkt_3, xkt_4, xkt_5, xkt_6, xkt_7, xkt_8, xkt_9, xkt_10, xkt_11, xkt_12, xkt_13, xkt_14, xkt_16, xkt_20, xkt_24, xkt_31, xkt_32, xkt_40, xkt_44, xkt_47, xkt_48, xkt_57, xkt_59, xkt_60, xkt_63, xkt_64, xkt_65, xkt_72, xkt_95, xkt_99, xkt_100, xkt_101, xkt_103, xkt_110, xkt_112, xkt_113, xkt_114, xkt_119, xkt_126, xkt_159, xkt_576, xkt_999, xkt_9999, xkt_65536, xkt_999999, xkt_m1, xkt_m2, xkt_m3, xkt_m4, xkt_m11, xkt_m12, xkt_m13, xkt_m14, xkt_m20, xjt_0, xjt_1, xjt_2, xjt_3, xjt_4, xjt_5, xjt_6, xjt_7, xjt_8, xjt_9, xjt_10, xjt_11, xjt_12, xjt_13, xjt_14, xjt_16, xjt_20, xjt_24, xjt_31, xjt_32, xjt_40, xjt_44, xjt_47, xjt_48, xjt_57, xjt_59, xjt_60, xjt_63, xjt_64, xjt_65, xjt_72, xjt_95, xjt_99, xjt_100, xjt_101, xjt_103, xjt_110, xjt_112, xjt_113, xjt_114, xjt_119, xjt_126, xjt_159, xjt_576, xjt_999, xjt_9999, xjt_65536, xjt_999999, xt64, xt_n, not_true_eq_false, not_false_eq_true, Classical.not_not] at c_7
    all_goals omega
  · skip
    refine xw_go xb_66 1 (f1 := (11, [.ref 0, .int x, .float 0], [.int (-1)])) (h1 := (xS b, I, L, xP b)) rfl trivial ?_
    refine xw_ret xb_66 rfl rfl trivial ?_
    exact xQC_same hP

theorem c_drift1 {d : Nat} {b : Bool} {I : Nat → Nat → Int32} {L : Nat → Nat → Int64} {N : Nat → Nat} {u : Nat} {U : Nat → Nat → Nat} (hP : xPL N u U 1 I) (hK : xUK N u U) {n : Nat} (hn : 1 ≤ n ∧ n ≤ 60) (hf : 9999 < N 4 + n) {x : Int32} (e_x : x = nI n) : xm_Z (d + 5) 66 [.ref 0, .int x] (xS b, I, L, xP b) (fun rz hz => xQC b I L (-3) N u U rz hz) := by
  subst e_x
  have hO := hK.1
  have hb := hK.1.1
  have c64 : N 0 * N 1 ≤ 64 := xce_le hO
  have c4 : 4 ≤ N 0 * N 1 := xce_ge hO
  obtain ⟨⟨hN0, hN1, hN2, hN3, hN4, hN5, hN6, hN7, hN8, hN9, hN10⟩, hNs, hNw, hNp⟩ := hP.1
  refine xw_S xb_66 (l := [.ref 0, .int (nI n), .float 0]) (Nat.le_of_ble_eq_true rfl) rfl ?_
  refine xw_go xb_66 3 (f1 := (4, [.ref 0, .int (nI n), .float 0], [.int 60, .int 1, .int (nI n)])) (h1 := (xS b, I, L, xP b)) rfl trivial ?_
  refine xw_call xb_66 rfl rfl rfl rfl rfl (Or.inl rfl) c_within ?_
  rintro _ _ ⟨rfl, rfl⟩
  refine xw_at (f' := (7, [.ref 0, .int (nI n), .float 0], [.int (nI (xB (decide ((1 : Int32).toInt ≤ (nI n).toInt ∧ (nI n).toInt ≤ (60 : Int32).toInt))))])) (h' := (xS b, I, L, xP b)) rfl rfl ?_
  refine xw_go xb_66 1 (f1 := (if ¬ (nI (xB (decide ((1 : Int32).toInt ≤ (nI n).toInt ∧ (nI n).toInt ≤ (60 : Int32).toInt)))) = 0 then 12 else 10, [.ref 0, .int (nI n), .float 0], [])) (h1 := (xS b, I, L, xP b)) rfl trivial ?_
  refine xw_if (fun c_7 => ?_) (fun c_7 => ?_)
  · skip
    refine xw_go xb_66 7 (f1 := (if ((I 1 11) + (nI n)) ≤ 9999 then 30 else 27, [.ref 0, .int (nI n), .float 0], [])) (h1 := (xS b, I, L, xP b)) rfl ⟨rfl, rfl, trivial⟩ ?_
    refine xw_if (fun c_24 => ?_) (fun c_24 => ?_)
    · skip
      exfalso
      rw [hN4, nI_add, xl_9999, nI_leI (by omega) (by omega)] at c_24
      omega
    · skip
      refine xw_go xb_66 1 (f1 := (29, [.ref 0, .int (nI n), .float 0], [.int (-3)])) (h1 := (xS b, I, L, xP b)) rfl trivial ?_
      refine xw_ret xb_66 rfl rfl trivial ?_
      exact xQC_same hP
  · skip
    exfalso
    try simp only [xB_dec, Classical.not_not] at c_7
    try simp (disch := omega) only [xt_eq, xt_lt, xt_le, xkt_0, xkt_1, xkt_2, xkt_3, xkt_4, xkt_5, xkt_6, xkt_7, xkt_8, xkt_9, xkt_10, xkt_11, xkt_12, xkt_13, xkt_14, xkt_16, xkt_20, xkt_24, xkt_31, xkt_32, xkt_40, xkt_44, xkt_47, xkt_48, xkt_57, xkt_59, xkt_60, xkt_63, xkt_64, xkt_65, xkt_72, xkt_95, xkt_99, xkt_100, xkt_101, xkt_103, xkt_110, xkt_112, xkt_113, xkt_114, xkt_119, xkt_126, xkt_159, xkt_576, xkt_999, xkt_9999, xkt_65536, xkt_999999, xkt_m1, xkt_m2, xkt_m3, xkt_m4, xkt_m11, xkt_m12, xkt_m13, xkt_m14, xkt_m20, xjt_0, xjt_1, xjt_2, xjt_3, xjt_4, xjt_5, xjt_6, xjt_7, xjt_8, xjt_9, xjt_10, xjt_11, xjt_12, xjt_13, xjt_14, xjt_16, xjt_20, xjt_24, xjt_31, xjt_32, xjt_40, xjt_44, xjt_47, xjt_48, xjt_57, xjt_59, xjt_60, xjt_63, xjt_64, xjt_65, xjt_72, xjt_95, xjt_99, xjt_100, xjt_101, xjt_103, xjt_110, xjt_112, xjt_113, xjt_114, xjt_119, xjt_126, xjt_159, xjt_576, xjt_999, xjt_9999, xjt_65536, xjt_999999, xt64, xt_n, not_true_eq_false, not_false_eq_true, Classical.not_not] at c_7
    all_goals omega

set_option maxHeartbeats 4000000 in
theorem c_drift2 {d : Nat} {b : Bool} {I : Nat → Nat → Int32} {L : Nat → Nat → Int64} {N : Nat → Nat} {u : Nat} {U : Nat → Nat → Nat} (hP : xPL N u U 1 I) (hK : xUK N u U) {n : Nat} (hn : 1 ≤ n ∧ n ≤ 60) (hf : N 4 + n ≤ 9999) {x : Int32} (e_x : x = nI n) : xm_Z (d + 5) 66 [.ref 0, .int x] (xS b, I, L, xP b) (fun rz hz => xQC b I L (nI (xDn N n 9)) (xDn N n) (min 8 (u + n)) (xUn (xDn N) u U n) rz hz) := by
  subst e_x
  have hO := hK.1
  have hb := hK.1.1
  have c64 : N 0 * N 1 ≤ 64 := xce_le hO
  have c4 : 4 ≤ N 0 * N 1 := xce_ge hO
  obtain ⟨⟨hN0, hN1, hN2, hN3, hN4, hN5, hN6, hN7, hN8, hN9, hN10⟩, hNs, hNw, hNp⟩ := hP.1
  have kk := xdn_uk hK hf
  refine xw_S xb_66 (l := [.ref 0, .int (nI n), .float 0]) (Nat.le_of_ble_eq_true rfl) rfl ?_
  refine xw_go xb_66 3 (f1 := (4, [.ref 0, .int (nI n), .float 0], [.int 60, .int 1, .int (nI n)])) (h1 := (xS b, I, L, xP b)) rfl trivial ?_
  refine xw_call xb_66 rfl rfl rfl rfl rfl (Or.inl rfl) c_within ?_
  rintro _ _ ⟨rfl, rfl⟩
  refine xw_at (f' := (7, [.ref 0, .int (nI n), .float 0], [.int (nI (xB (decide ((1 : Int32).toInt ≤ (nI n).toInt ∧ (nI n).toInt ≤ (60 : Int32).toInt))))])) (h' := (xS b, I, L, xP b)) rfl rfl ?_
  refine xw_go xb_66 1 (f1 := (if ¬ (nI (xB (decide ((1 : Int32).toInt ≤ (nI n).toInt ∧ (nI n).toInt ≤ (60 : Int32).toInt)))) = 0 then 12 else 10, [.ref 0, .int (nI n), .float 0], [])) (h1 := (xS b, I, L, xP b)) rfl trivial ?_
  refine xw_if (fun c_7 => ?_) (fun c_7 => ?_)
  · skip
    refine xw_go xb_66 7 (f1 := (if ((I 1 11) + (nI n)) ≤ 9999 then 30 else 27, [.ref 0, .int (nI n), .float 0], [])) (h1 := (xS b, I, L, xP b)) rfl ⟨rfl, rfl, trivial⟩ ?_
    refine xw_if (fun c_24 => ?_) (fun c_24 => ?_)
    · skip
      refine xw_go xb_66 2 (f1 := (32, [.ref 0, .int (nI n), .int 0], [])) (h1 := (xS b, I, L, xP b)) rfl trivial ?_
      refine xw_loopP n (fun c => (32, [.ref 0, .int (nI n), .int (nI c)], [])) (fun c h => ∃ J, h = (xS b, J, L, xP b) ∧ xPF I J ∧ xPL (xDn N c) (min 8 (u + c)) (xUn (xDn N) u U c) 1 J) (fun c h hc hV ih => ?_) (fun h hV => ?_) 0 _ (Nat.zero_le _) ?_
      · obtain ⟨J, rfl, j1, j2⟩ := hV
        have ok2 : xOK (xdw (xDn N c)) := xdw_ok (kk c (by omega)).1
        have b2 := (kk c (by omega)).1.1
        refine xw_go xb_66 3 (f1 := (if (nI n) ≤ (nI c) then 86 else 37, [.ref 0, .int (nI n), .int (nI c)], [])) (h1 := (xS b, J, L, xP b)) rfl trivial ?_
        refine xw_if (fun c_34 => ?_) (fun c_34 => ?_)
        · skip
          exfalso
          simp (disch := omega) only [nI_leI] at c_34
          omega
        · skip
          refine xw_go xb_66 2 (f1 := (41, [.ref 0, .int (nI n), .int (nI c)], [.ref 1])) (h1 := (xS b, J, L, xP b)) rfl ⟨rfl, trivial⟩ ?_
          refine xw_call xb_66 rfl rfl rfl rfl rfl (Or.inr ⟨_, _, rfl, rfl⟩) (c_rem (I := J) j2 (kk c (by omega))) ?_
          rintro _ _ ⟨rfl, J1, rfl, g1, g2⟩
          refine xw_at (f' := (44, [.ref 0, .int (nI n), .int (nI c)], [])) (h' := (xS b, J1, L, xP b)) rfl rfl ?_
          refine xw_go xb_66 9 (f1 := (63, [.ref 0, .int (nI n), .int (nI c)], [.ref 1, .int (J1 1 6), .ref 1, .ref 20])) (h1 := (xS b, J1, L, xP b)) rfl ⟨rfl, rfl, rfl, rfl, rfl, trivial⟩ ?_
          refine xw_call xb_66 rfl rfl rfl rfl rfl (Or.inr ⟨_, _, rfl, rfl⟩) (c_drawWind (I := J1) (w := xDn N c 10) g2.1.1.2.2.2.2.2.2.2.2.2.2) ?_
          rintro _ _ ⟨rfl, rfl⟩
          refine xw_at (f' := (66, [.ref 0, .int (nI n), .int (nI c)], [.int (nI (xdv (xDn N c 10) / 65536 % 4)), .int (J1 1 6), .ref 1, .ref 20])) (h' := (xS b, xm_up J1 1 13 (nI (xdv (xDn N c 10))), L, xP b)) rfl rfl ?_
          have p2 : xPL (xdw (xDn N c)) (min 8 (min 8 (u + c) + 1)) (xpsh (xDn N c) (min 8 (u + c)) (xUn (xDn N) u U c)) 1 (xm_up J1 1 13 (nI (xdv (xDn N c 10)))) := xPL_N g2 (xPN_u (k := 10) (by omega) g2.1 (by decide) rfl rfl rfl) rfl (fun a h1 h2 => xm_up_o (by omega))
          refine xw_call xb_66 rfl rfl rfl rfl rfl (Or.inr ⟨_, _, rfl, rfl⟩) (c_run (I := (xm_up J1 1 13 (nI (xdv (xDn N c 10))))) p2.1 ok2 (o := xDn N c 3) (wi := xdv (xDn N c 10) / 65536 % 4) (xOn32 (kk c (by omega)).1) (by omega) g2.1.1.2.2.2.1 rfl) ?_
          rintro _ _ ⟨rfl, F, X, T, hF, hT, rfl⟩
          have p3 := xPL_fr (by show xDn N c 2 ≤ 5; omega) p2 (I' := xm_up (va_up (va_up (va_up (xm_up J1 1 13 (nI (xdv (xDn N c 10)))) 21 F) 23 X) 22 T) 20 3 (nI (xlo (xdw (xDn N c)) (xDn N c 3) (xdv (xDn N c 10) / 65536 % 4)))) fun a h1 h2 => by rw [xm_up_o (by omega), xm_vu_o (by omega), xm_vu_o (by omega), xm_vu_o (by omega)]
          refine xw_at (f' := (69, [.ref 0, .int (nI n), .int (nI c)], [])) (h' := (xS b, xm_up (va_up (va_up (va_up (xm_up J1 1 13 (nI (xdv (xDn N c 10)))) 21 F) 23 X) 22 T) 20 3 (nI (xlo (xdw (xDn N c)) (xDn N c 3) (xdv (xDn N c 10) / 65536 % 4))), L, xP b)) rfl rfl ?_
          refine xw_go xb_66 4 (f1 := (77, [.ref 0, .int (nI n), .int (nI c)], [.ref 20, .ref 1])) (h1 := (xS b, xm_up (va_up (va_up (va_up (xm_up J1 1 13 (nI (xdv (xDn N c 10)))) 21 F) 23 X) 22 T) 20 3 (nI (xlo (xdw (xDn N c)) (xDn N c 3) (xdv (xDn N c 10) / 65536 % 4))), L, xP b)) rfl ⟨rfl, rfl, trivial⟩ ?_
          refine xw_call xb_66 rfl rfl rfl rfl rfl (Or.inr ⟨_, _, rfl, rfl⟩) (c_passMinute (I := (xm_up (va_up (va_up (va_up (xm_up J1 1 13 (nI (xdv (xDn N c 10)))) 21 F) 23 X) 22 T) 20 3 (nI (xlo (xdw (xDn N c)) (xDn N c 3) (xdv (xDn N c 10) / 65536 % 4))))) (N := xdw (xDn N c)) p3.1 ok2 (fv := (xfa (xdw (xDn N c)) (xDn N c 3) (xdv (xDn N c 10) / 65536 % 4))) (fun j hj => hT j hj) (fun j hj => by have := xta_le ok2 (o := xDn N c 3) (wi := xdv (xDn N c 10) / 65536 % 4) hj; unfold xta at this; omega) rfl (by have := xlo_le ok2 (xDn N c 3) (xdv (xDn N c 10) / 65536 % 4); unfold xlo at this; omega)) ?_
          rintro _ _ ⟨rfl, J4, rfl, f1, f2⟩
          refine xw_at (f' := (80, [.ref 0, .int (nI n), .int (nI c)], [])) (h' := (xS b, J4, L, xP b)) rfl rfl ?_
          refine xw_go xb_66 2 (f1 := (32, [.ref 0, .int (nI n), .int ((nI c) + 1)], [])) (h1 := (xS b, J4, L, xP b)) rfl trivial ?_
          have q : ∀ a, a ≠ 1 → a ≠ 3 → J4 a = (xm_up (va_up (va_up (va_up (xm_up J1 1 13 (nI (xdv (xDn N c 10)))) 21 F) 23 X) 22 T) 20 3 (nI (xlo (xdw (xDn N c)) (xDn N c 3) (xdv (xDn N c 10) / 65536 % 4)))) a := fun a h1 h3 => f1 a (by simp only [List.mem_cons, List.not_mem_nil, or_false, not_or]; exact ⟨h1, h3⟩)
          have e2 : xPL (xDn N (c + 1)) (min 8 (min 8 (u + c) + 1)) (xUn (xDn N) u U (c + 1)) 1 J4 := xPL_N p3 f2 rfl (fun a h1 h2 => q a (by omega) (by omega))
          rw [xm8] at e2
          refine xw_cong ?_ rfl rfl (ih _ ⟨J4, rfl, xPF_t (xPF_u (xPF_v (xPF_v (xPF_v (xPF_u (xPF_t j1 (fun a ha => g1 a (by omega))) (by decide)) (by decide)) (by decide)) (by decide)) (by decide)) (fun a ha => q a (by omega) (by omega)), e2⟩)
          rw [nI_1]
      · obtain ⟨J, rfl, j1, j2⟩ := hV
        refine xw_go xb_66 3 (f1 := (if (nI n) ≤ (nI n) then 86 else 37, [.ref 0, .int (nI n), .int (nI n)], [])) (h1 := (xS b, J, L, xP b)) rfl trivial ?_
        refine xw_if (fun c_34 => ?_) (fun c_34 => ?_)
        · skip
          refine xw_go xb_66 3 (f1 := (93, [.ref 0, .int (nI n), .int (nI n)], [.int (J 1 12)])) (h1 := (xS b, J, L, xP b)) rfl ⟨rfl, rfl, trivial⟩ ?_
          refine xw_ret xb_66 rfl rfl trivial ?_
          exact ⟨xm_some (congrArg Value.int j2.1.1.2.2.2.2.2.2.2.2.2.1), J, rfl, j1, j2⟩
        · skip
          exfalso
          simp (disch := omega) only [nI_leI] at c_34
          omega
      · have e0 : min 8 (u + 0) = u := by have := hK.2.2.1; omega
        refine ⟨_, rfl, xPF_r I, ?_⟩
        rw [e0]
        exact hP
    · skip
      exfalso
      rw [hN4, nI_add, xl_9999, nI_leI (by omega) (by omega)] at c_24
      omega
  · skip
    exfalso
    try simp only [xB_dec, Classical.not_not] at c_7
    try simp (disch := omega) only [xt_eq, xt_lt, xt_le, xkt_0, xkt_1, xkt_2, xkt_3, xkt_4, xkt_5, xkt_6, xkt_7, xkt_8, xkt_9, xkt_10, xkt_11, xkt_12, xkt_13, xkt_14, xkt_16, xkt_20, xkt_24, xkt_31, xkt_32, xkt_40, xkt_44, xkt_47, xkt_48, xkt_57, xkt_59, xkt_60, xkt_63, xkt_64, xkt_65, xkt_72, xkt_95, xkt_99, xkt_100, xkt_101, xkt_103, xkt_110, xkt_112, xkt_113, xkt_114, xkt_119, xkt_126, xkt_159, xkt_576, xkt_999, xkt_9999, xkt_65536, xkt_999999, xkt_m1, xkt_m2, xkt_m3, xkt_m4, xkt_m11, xkt_m12, xkt_m13, xkt_m14, xkt_m20, xjt_0, xjt_1, xjt_2, xjt_3, xjt_4, xjt_5, xjt_6, xjt_7, xjt_8, xjt_9, xjt_10, xjt_11, xjt_12, xjt_13, xjt_14, xjt_16, xjt_20, xjt_24, xjt_31, xjt_32, xjt_40, xjt_44, xjt_47, xjt_48, xjt_57, xjt_59, xjt_60, xjt_63, xjt_64, xjt_65, xjt_72, xjt_95, xjt_99, xjt_100, xjt_101, xjt_103, xjt_110, xjt_112, xjt_113, xjt_114, xjt_119, xjt_126, xjt_159, xjt_576, xjt_999, xjt_9999, xjt_65536, xjt_999999, xt64, xt_n, not_true_eq_false, not_false_eq_true, Classical.not_not] at c_7
    all_goals omega

theorem m_drift0 {d : Nat} {b : Bool} {I : Nat → Nat → Int32} {L : Nat → Nat → Int64} {N : Nat → Nat} {u : Nat} {U : Nat → Nat → Nat} (hM : xML N u U I) (hK : xUK N u U) {x : Int32} (hx : ¬ (1 ≤ x.toInt ∧ x.toInt ≤ 60)) : xm_Z (d + 5) 146 [.ref 60, .int x] (xS b, I, L, xP b) (fun rz hz => xQM b I L (-1) N u U rz hz) := by
  refine xw_S xb_146 (l := [.ref 60, .int x, .float 0]) (Nat.le_of_ble_eq_true rfl) rfl ?_
  refine xw_go xb_146 4 (f1 := (6, [.ref 60, .int x, .float 0], [.long 60, .long 1, .long x.toInt64])) (h1 := (xS b, I, L, xP b)) rfl trivial ?_
  refine xw_call xb_146 rfl rfl rfl rfl rfl (Or.inl rfl) m_in ?_
  rintro _ _ ⟨rfl, rfl⟩
  refine xw_at (f' := (9, [.ref 60, .int x, .float 0], [.int (nI (xB (decide ((1 : Int64).toInt ≤ x.toInt64.toInt ∧ x.toInt64.toInt ≤ (60 : Int64).toInt))))])) (h' := (xS b, I, L, xP b)) rfl rfl ?_
  refine xw_go xb_146 1 (f1 := (if ¬ (nI (xB (decide ((1 : Int64).toInt ≤ x.toInt64.toInt ∧ x.toInt64.toInt ≤ (60 : Int64).toInt)))) = 0 then 14 else 12, [.ref 60, .int x, .float 0], [])) (h1 := (xS b, I, L, xP b)) rfl trivial ?_
  refine xw_if (fun c_9 => ?_) (fun c_9 => ?_)
  · skip
    exfalso
    try simp only [xB_dec, Classical.not_not] at c_9
    try simp (disch := omega) only [xt_eq, xt_lt, xt_le, xkt_0, xkt_1, xkt_2, xkt_3, xkt_4, xkt_5, xkt_6, xkt_7, xkt_8, xkt_9, xkt_10, xkt_11, xkt_12, xkt_13, xkt_14, xkt_16, xkt_20, xkt_24, xkt_31, xkt_32, xkt_40, xkt_44, xkt_47, xkt_48, xkt_57, xkt_59, xkt_60, xkt_63, xkt_64, xkt_65, xkt_72, xkt_95, xkt_99, xkt_100, xkt_101, xkt_103, xkt_110, xkt_112, xkt_113, xkt_114, xkt_119, xkt_126, xkt_159, xkt_576, xkt_999, xkt_9999, xkt_65536, xkt_999999, xkt_m1, xkt_m2, xkt_m3, xkt_m4, xkt_m11, xkt_m12, xkt_m13, xkt_m14, xkt_m20, xjt_0, xjt_1, xjt_2, xjt_3, xjt_4, xjt_5, xjt_6, xjt_7, xjt_8, xjt_9, xjt_10, xjt_11, xjt_12, xjt_13, xjt_14, xjt_16, xjt_20, xjt_24, xjt_31, xjt_32, xjt_40, xjt_44, xjt_47, xjt_48, xjt_57, xjt_59, xjt_60, xjt_63, xjt_64, xjt_65, xjt_72, xjt_95, xjt_99, xjt_100, xjt_101, xjt_103, xjt_110, xjt_112, xjt_113, xjt_114, xjt_119, xjt_126, xjt_159, xjt_576, xjt_999, xjt_9999, xjt_65536, xjt_999999, xt64, xt_n, not_true_eq_false, not_false_eq_true, Classical.not_not] at c_9
    all_goals omega
  · skip
    refine xw_go xb_146 1 (f1 := (13, [.ref 60, .int x, .float 0], [.int (-1)])) (h1 := (xS b, I, L, xP b)) rfl trivial ?_
    refine xw_ret xb_146 rfl rfl trivial ?_
    exact xQM_same hM

theorem m_drift1 {d : Nat} {b : Bool} {I : Nat → Nat → Int32} {L : Nat → Nat → Int64} {N : Nat → Nat} {u : Nat} {U : Nat → Nat → Nat} (hM : xML N u U I) (hK : xUK N u U) {n : Nat} (hn : 1 ≤ n ∧ n ≤ 60) (hf : 9999 < N 4 + n) {x : Int32} (e_x : x = nI n) : xm_Z (d + 5) 146 [.ref 60, .int x] (xS b, I, L, xP b) (fun rz hz => xQM b I L (-3) N u U rz hz) := by
  subst e_x
  have hO := hK.1
  have hb := hK.1.1
  have c64 : N 0 * N 1 ≤ 64 := xce_le hO
  have c4 : 4 ≤ N 0 * N 1 := xce_ge hO
  refine xw_S xb_146 (l := [.ref 60, .int (nI n), .float 0]) (Nat.le_of_ble_eq_true rfl) rfl ?_
  refine xw_go xb_146 4 (f1 := (6, [.ref 60, .int (nI n), .float 0], [.long 60, .long 1, .long ((nI n).toInt64)])) (h1 := (xS b, I, L, xP b)) rfl trivial ?_
  refine xw_call xb_146 rfl rfl rfl rfl rfl (Or.inl rfl) m_in ?_
  rintro _ _ ⟨rfl, rfl⟩
  refine xw_at (f' := (9, [.ref 60, .int (nI n), .float 0], [.int (nI (xB (decide ((1 : Int64).toInt ≤ (nI n).toInt64.toInt ∧ (nI n).toInt64.toInt ≤ (60 : Int64).toInt))))])) (h' := (xS b, I, L, xP b)) rfl rfl ?_
  refine xw_go xb_146 1 (f1 := (if ¬ (nI (xB (decide ((1 : Int64).toInt ≤ (nI n).toInt64.toInt ∧ (nI n).toInt64.toInt ≤ (60 : Int64).toInt)))) = 0 then 14 else 12, [.ref 60, .int (nI n), .float 0], [])) (h1 := (xS b, I, L, xP b)) rfl trivial ?_
  refine xw_if (fun c_9 => ?_) (fun c_9 => ?_)
  · skip
    refine xw_go xb_146 8 (f1 := (if ((I 61 (4 : Int32).toNatClampNeg) + (nI n)) ≤ 9999 then 31 else 28, [.ref 60, .int (nI n), .float 0], [])) (h1 := (xS b, I, L, xP b)) rfl ⟨rfl, (xn_ar (n := 4) (N := 159) rfl (by decide) (by decide)), trivial⟩ ?_
    refine xw_if (fun c_25 => ?_) (fun c_25 => ?_)
    · skip
      exfalso
      rw [show (4 : Int32).toNatClampNeg = 4 from rfl, hM.1 4 (by decide), nI_add, xl_9999, nI_leI (by omega) (by omega)] at c_25
      omega
    · skip
      refine xw_go xb_146 1 (f1 := (30, [.ref 60, .int (nI n), .float 0], [.int (-3)])) (h1 := (xS b, I, L, xP b)) rfl trivial ?_
      refine xw_ret xb_146 rfl rfl trivial ?_
      exact xQM_same hM
  · skip
    exfalso
    try simp only [xB_dec, Classical.not_not] at c_9
    try simp (disch := omega) only [xt_eq, xt_lt, xt_le, xkt_0, xkt_1, xkt_2, xkt_3, xkt_4, xkt_5, xkt_6, xkt_7, xkt_8, xkt_9, xkt_10, xkt_11, xkt_12, xkt_13, xkt_14, xkt_16, xkt_20, xkt_24, xkt_31, xkt_32, xkt_40, xkt_44, xkt_47, xkt_48, xkt_57, xkt_59, xkt_60, xkt_63, xkt_64, xkt_65, xkt_72, xkt_95, xkt_99, xkt_100, xkt_101, xkt_103, xkt_110, xkt_112, xkt_113, xkt_114, xkt_119, xkt_126, xkt_159, xkt_576, xkt_999, xkt_9999, xkt_65536, xkt_999999, xkt_m1, xkt_m2, xkt_m3, xkt_m4, xkt_m11, xkt_m12, xkt_m13, xkt_m14, xkt_m20, xjt_0, xjt_1, xjt_2, xjt_3, xjt_4, xjt_5, xjt_6, xjt_7, xjt_8, xjt_9, xjt_10, xjt_11, xjt_12, xjt_13, xjt_14, xjt_16, xjt_20, xjt_24, xjt_31, xjt_32, xjt_40, xjt_44, xjt_47, xjt_48, xjt_57, xjt_59, xjt_60, xjt_63, xjt_64, xjt_65, xjt_72, xjt_95, xjt_99, xjt_100, xjt_101, xjt_103, xjt_110, xjt_112, xjt_113, xjt_114, xjt_119, xjt_126, xjt_159, xjt_576, xjt_999, xjt_9999, xjt_65536, xjt_999999, xt64, xt_n, not_true_eq_false, not_false_eq_true, Classical.not_not] at c_9
    all_goals omega

set_option maxHeartbeats 4000000 in
theorem m_drift2 {d : Nat} {b : Bool} {I : Nat → Nat → Int32} {L : Nat → Nat → Int64} {N : Nat → Nat} {u : Nat} {U : Nat → Nat → Nat} (hM : xML N u U I) (hK : xUK N u U) {n : Nat} (hn : 1 ≤ n ∧ n ≤ 60) (hf : N 4 + n ≤ 9999) {x : Int32} (e_x : x = nI n) : xm_Z (d + 5) 146 [.ref 60, .int x] (xS b, I, L, xP b) (fun rz hz => xQM b I L (nI (xDn N n 9)) (xDn N n) (min 8 (u + n)) (xUn (xDn N) u U n) rz hz) := by
  subst e_x
  have hO := hK.1
  have hb := hK.1.1
  have c64 : N 0 * N 1 ≤ 64 := xce_le hO
  have c4 : 4 ≤ N 0 * N 1 := xce_ge hO
  have kk := xdn_uk hK hf
  refine xw_S xb_146 (l := [.ref 60, .int (nI n), .float 0]) (Nat.le_of_ble_eq_true rfl) rfl ?_
  refine xw_go xb_146 4 (f1 := (6, [.ref 60, .int (nI n), .float 0], [.long 60, .long 1, .long ((nI n).toInt64)])) (h1 := (xS b, I, L, xP b)) rfl trivial ?_
  refine xw_call xb_146 rfl rfl rfl rfl rfl (Or.inl rfl) m_in ?_
  rintro _ _ ⟨rfl, rfl⟩
  refine xw_at (f' := (9, [.ref 60, .int (nI n), .float 0], [.int (nI (xB (decide ((1 : Int64).toInt ≤ (nI n).toInt64.toInt ∧ (nI n).toInt64.toInt ≤ (60 : Int64).toInt))))])) (h' := (xS b, I, L, xP b)) rfl rfl ?_
  refine xw_go xb_146 1 (f1 := (if ¬ (nI (xB (decide ((1 : Int64).toInt ≤ (nI n).toInt64.toInt ∧ (nI n).toInt64.toInt ≤ (60 : Int64).toInt)))) = 0 then 14 else 12, [.ref 60, .int (nI n), .float 0], [])) (h1 := (xS b, I, L, xP b)) rfl trivial ?_
  refine xw_if (fun c_9 => ?_) (fun c_9 => ?_)
  · skip
    refine xw_go xb_146 8 (f1 := (if ((I 61 (4 : Int32).toNatClampNeg) + (nI n)) ≤ 9999 then 31 else 28, [.ref 60, .int (nI n), .float 0], [])) (h1 := (xS b, I, L, xP b)) rfl ⟨rfl, (xn_ar (n := 4) (N := 159) rfl (by decide) (by decide)), trivial⟩ ?_
    refine xw_if (fun c_25 => ?_) (fun c_25 => ?_)
    · skip
      refine xw_go xb_146 2 (f1 := (33, [.ref 60, .int (nI n), .int 0], [])) (h1 := (xS b, I, L, xP b)) rfl trivial ?_
      refine xw_loopP n (fun c => (33, [.ref 60, .int (nI n), .int (nI c)], [])) (fun c h => ∃ J, h = (xS b, J, L, xP b) ∧ xMF I J ∧ xML (xDn N c) (min 8 (u + c)) (xUn (xDn N) u U c) J) (fun c h hc hV ih => ?_) (fun h hV => ?_) 0 _ (Nat.zero_le _) ?_
      · obtain ⟨J, rfl, j1, j2⟩ := hV
        have ok2 : xOK (xdw (xDn N c)) := xdw_ok (kk c (by omega)).1
        have b2 := (kk c (by omega)).1.1
        refine xw_go xb_146 3 (f1 := (if (nI n) ≤ (nI c) then 102 else 38, [.ref 60, .int (nI n), .int (nI c)], [])) (h1 := (xS b, J, L, xP b)) rfl trivial ?_
        refine xw_if (fun c_35 => ?_) (fun c_35 => ?_)
        · skip
          exfalso
          simp (disch := omega) only [nI_leI] at c_35
          omega
        · skip
          refine xw_go xb_146 1 (f1 := (39, [.ref 60, .int (nI n), .int (nI c)], [.ref 60])) (h1 := (xS b, J, L, xP b)) rfl trivial ?_
          refine xw_call xb_146 rfl rfl rfl rfl rfl (Or.inr ⟨_, _, rfl, rfl⟩) (m_notes (I := J) j2 (kk c (by omega))) ?_
          rintro _ _ ⟨rfl, J1, rfl, g1, g3, g2⟩
          refine xw_at (f' := (42, [.ref 60, .int (nI n), .int (nI c)], [])) (h' := (xS b, J1, L, xP b)) rfl rfl ?_
          refine xw_go xb_146 16 (f1 := (70, [.ref 60, .int (nI n), .int (nI c)], [])) (h1 := (xS b, xm_up J1 61 (10 : Int32).toNatClampNeg ((((((J1 61 (10 : Int32).toNatClampNeg).toInt64) * 1103515245) + 12345) &&& 2147483647).toInt32), L, xP b)) rfl ⟨rfl, rfl, (xn_ar (n := 10) (N := 159) rfl (by decide) (by decide)), (xn_ar (n := 10) (N := 159) rfl (by decide) (by decide)), trivial⟩ ?_
          refine xw_at (f' := (70, [.ref 60, .int (nI n), .int (nI c)], [])) (h' := (xS b, xm_up J1 61 10 (nI (xdv (xDn N c 10))), L, xP b)) rfl (show (xS b, xm_up J1 61 (10 : Int32).toNatClampNeg ((((((J1 61 (10 : Int32).toNatClampNeg).toInt64) * 1103515245) + 12345) &&& 2147483647).toInt32), L, xP b) = (xS b, xm_up J1 61 10 (nI (xdv (xDn N c 10))), L, xP b) from ?_) ?_
          · refine congrArg (fun X => (xS b, X, L, xP b)) ?_
            rw [show (10 : Int32).toNatClampNeg = 10 from rfl, g2.1 10 (by decide), xdraw2 (by omega), xdv_eq]
          have p2 : xML (xdw (xDn N c)) (min 8 (min 8 (u + c) + 1)) (xpsh (xDn N c) (min 8 (u + c)) (xUn (xDn N) u U c)) (xm_up J1 61 10 (nI (xdv (xDn N c 10)))) := xML_N g2 (xMN_u g2.1 rfl rfl) rfl rfl
          refine xw_go xb_146 13 (f1 := (89, [.ref 60, .int (nI n), .int (nI c)], [.int ((((xm_up J1 61 10 (nI (xdv (xDn N c 10)))) 61 (10 : Int32).toNatClampNeg) / 65536) - (((xm_up J1 61 10 (nI (xdv (xDn N c 10)))) 61 (10 : Int32).toNatClampNeg) / 65536) / 4 * 4), .int ((xm_up J1 61 10 (nI (xdv (xDn N c 10)))) 61 (3 : Int32).toNatClampNeg), .ref 60])) (h1 := (xS b, xm_up J1 61 10 (nI (xdv (xDn N c 10))), L, xP b)) rfl ⟨rfl, (xn_ar (n := 3) (N := 159) rfl (by decide) (by decide)), rfl, (xn_ar (n := 10) (N := 159) rfl (by decide) (by decide)), (by decide), (by decide), trivial⟩ ?_
          refine xw_cong (l' := [.ref 60, .int (nI n), .int (nI c)]) (st' := [.int (nI (xdv (xDn N c 10) / 65536 % 4)), .int ((xm_up J1 61 10 (nI (xdv (xDn N c 10)))) 61 (3 : Int32).toNatClampNeg), .ref 60]) (h' := (xS b, xm_up J1 61 10 (nI (xdv (xDn N c 10))), L, xP b)) rfl (show ([.int ((((xm_up J1 61 10 (nI (xdv (xDn N c 10)))) 61 (10 : Int32).toNatClampNeg) / 65536) - (((xm_up J1 61 10 (nI (xdv (xDn N c 10)))) 61 (10 : Int32).toNatClampNeg) / 65536) / 4 * 4), .int ((xm_up J1 61 10 (nI (xdv (xDn N c 10)))) 61 (3 : Int32).toNatClampNeg), .ref 60] : List Value) = [.int (nI (xdv (xDn N c 10) / 65536 % 4)), .int ((xm_up J1 61 10 (nI (xdv (xDn N c 10)))) 61 (3 : Int32).toNatClampNeg), .ref 60] from ?_) rfl ?_
          · have hl := xdv_lt (xDn N c 10)
            rw [show (10 : Int32).toNatClampNeg = 10 from rfl, xm_up_at, xl_65536, xl_4, xn_div (by omega) (by omega) (by omega), xn_rem (by omega) (by omega) (by omega)]
          refine xw_call xb_146 rfl rfl rfl rfl rfl (Or.inr ⟨_, _, rfl, rfl⟩) (m_rains (I := (xm_up J1 61 10 (nI (xdv (xDn N c 10))))) p2.1 ok2 (o := xDn N c 3) (wi := xdv (xDn N c 10) / 65536 % 4) (xOn32 (kk c (by omega)).1) (by omega) (p2.1 3 (by decide)) rfl) ?_
          rintro _ _ ⟨rfl, X, rfl, hX⟩
          have p3 := xml_fr (I' := va_up (xm_up J1 61 10 (nI (xdv (xDn N c 10)))) 62 X) p2 rfl rfl rfl
          refine xw_at (f' := (92, [.ref 60, .int (nI n), .int (nI c)], [])) (h' := (xS b, va_up (xm_up J1 61 10 (nI (xdv (xDn N c 10)))) 62 X, L, xP b)) rfl rfl ?_
          refine xw_go xb_146 1 (f1 := (93, [.ref 60, .int (nI n), .int (nI c)], [.ref 60])) (h1 := (xS b, va_up (xm_up J1 61 10 (nI (xdv (xDn N c 10)))) 62 X, L, xP b)) rfl trivial ?_
          refine xw_call xb_146 rfl rfl rfl rfl rfl (Or.inr ⟨_, _, rfl, rfl⟩) (m_goesBy (I := (va_up (xm_up J1 61 10 (nI (xdv (xDn N c 10)))) 62 X)) p3.1 ok2 (fv := (xfa (xdw (xDn N c)) (xDn N c 3) (xdv (xDn N c 10) / 65536 % 4))) (fun j hj => hX j hj) (fun j hj => by have := xfa_le ok2 (xDn N c 3) (xdv (xDn N c 10) / 65536 % 4) j; omega)) ?_
          rintro _ _ ⟨rfl, X1, Y1, rfl, hY⟩
          refine xw_at (f' := (96, [.ref 60, .int (nI n), .int (nI c)], [])) (h' := (xS b, va_up (va_up (va_up (xm_up J1 61 10 (nI (xdv (xDn N c 10)))) 62 X) 63 X1) 61 Y1, L, xP b)) rfl rfl ?_
          refine xw_go xb_146 2 (f1 := (33, [.ref 60, .int (nI n), .int ((nI c) + 1)], [])) (h1 := (xS b, va_up (va_up (va_up (xm_up J1 61 10 (nI (xdv (xDn N c 10)))) 62 X) 63 X1) 61 Y1, L, xP b)) rfl trivial ?_
          have e2 : xML (xDn N (c + 1)) (min 8 (min 8 (u + c) + 1)) (xUn (xDn N) u U (c + 1)) (va_up (va_up (va_up (xm_up J1 61 10 (nI (xdv (xDn N c 10)))) 62 X) 63 X1) 61 Y1) := xML_N p3 (fun k hk => hY k hk) rfl rfl
          rw [xm8] at e2
          refine xw_cong ?_ rfl rfl (ih _ ⟨_, rfl, xMF_v (xMF_v (xMF_v (xMF_u (xMF_t j1 g1) (by decide)) (by decide)) (by decide)) (by decide), e2⟩)
          rw [nI_1]
      · obtain ⟨J, rfl, j1, j2⟩ := hV
        refine xw_go xb_146 3 (f1 := (if (nI n) ≤ (nI n) then 102 else 38, [.ref 60, .int (nI n), .int (nI n)], [])) (h1 := (xS b, J, L, xP b)) rfl trivial ?_
        refine xw_if (fun c_35 => ?_) (fun c_35 => ?_)
        · skip
          refine xw_go xb_146 4 (f1 := (109, [.ref 60, .int (nI n), .int (nI n)], [.int (J 61 (9 : Int32).toNatClampNeg)])) (h1 := (xS b, J, L, xP b)) rfl ⟨rfl, (xn_ar (n := 9) (N := 159) rfl (by decide) (by decide)), trivial⟩ ?_
          refine xw_ret xb_146 rfl rfl trivial ?_
          exact ⟨xm_some (congrArg Value.int (j2.1 9 (by decide))), J, rfl, j1, j2⟩
        · skip
          exfalso
          simp (disch := omega) only [nI_leI] at c_35
          omega
      · have e0 : min 8 (u + 0) = u := by have := hK.2.2.1; omega
        refine ⟨_, rfl, xMF_r I, ?_⟩
        rw [e0]
        exact hM
    · skip
      exfalso
      rw [show (4 : Int32).toNatClampNeg = 4 from rfl, hM.1 4 (by decide), nI_add, xl_9999, nI_leI (by omega) (by omega)] at c_25
      omega
  · skip
    exfalso
    try simp only [xB_dec, Classical.not_not] at c_9
    try simp (disch := omega) only [xt_eq, xt_lt, xt_le, xkt_0, xkt_1, xkt_2, xkt_3, xkt_4, xkt_5, xkt_6, xkt_7, xkt_8, xkt_9, xkt_10, xkt_11, xkt_12, xkt_13, xkt_14, xkt_16, xkt_20, xkt_24, xkt_31, xkt_32, xkt_40, xkt_44, xkt_47, xkt_48, xkt_57, xkt_59, xkt_60, xkt_63, xkt_64, xkt_65, xkt_72, xkt_95, xkt_99, xkt_100, xkt_101, xkt_103, xkt_110, xkt_112, xkt_113, xkt_114, xkt_119, xkt_126, xkt_159, xkt_576, xkt_999, xkt_9999, xkt_65536, xkt_999999, xkt_m1, xkt_m2, xkt_m3, xkt_m4, xkt_m11, xkt_m12, xkt_m13, xkt_m14, xkt_m20, xjt_0, xjt_1, xjt_2, xjt_3, xjt_4, xjt_5, xjt_6, xjt_7, xjt_8, xjt_9, xjt_10, xjt_11, xjt_12, xjt_13, xjt_14, xjt_16, xjt_20, xjt_24, xjt_31, xjt_32, xjt_40, xjt_44, xjt_47, xjt_48, xjt_57, xjt_59, xjt_60, xjt_63, xjt_64, xjt_65, xjt_72, xjt_95, xjt_99, xjt_100, xjt_101, xjt_103, xjt_110, xjt_112, xjt_113, xjt_114, xjt_119, xjt_126, xjt_159, xjt_576, xjt_999, xjt_9999, xjt_65536, xjt_999999, xt64, xt_n, not_true_eq_false, not_false_eq_true, Classical.not_not] at c_9
    all_goals omega

