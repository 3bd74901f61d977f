/-! ===== sheets: item, film, copy ===== -/
theorem xcy_0 {α : Type} (f g : Nat → α) (sp dp : Nat) : va_cpy f g sp dp 0 = g := by
  funext k
  unfold va_cpy
  rw [if_neg (by omega)]
theorem xcy_up {α : Type} {I : Nat → Nat → α} {a : Nat} {f g : Nat → α} {sp dp k q : Nat} {v : α} (hq : q = dp + k) (hv : v = f (sp + k)) : xm_up (va_up I a (va_cpy f g sp dp k)) a q v = va_up I a (va_cpy f g sp dp (k + 1)) := by
  subst hq
  subst hv
  rw [xup_s]
  congr 1
  funext x
  unfold va_cpy
  by_cases h : x = dp + k
  · subst h
    simp only [va_up, if_true]
    rw [if_pos (by omega)]
    congr 1
    omega
  · simp only [va_up, h, if_false]
    by_cases h1 : dp ≤ x ∧ x < dp + k
    · rw [if_pos h1, if_pos (by omega)]
    · rw [if_neg h1, if_neg (by omega)]
theorem xSH_L {Y : xY} {I : Nat → Nat → Int32} {L : Nat → Nat → Int64} (hS : xSH Y I L) {s : Nat} (hs : s < 4) {f : Nat → Int64} {it : Nat → Int64} (hh : (Y s).1 = true) (hf : ∀ k, k < 24 → f k = it k) : xSH (va_up Y s (true, (Y s).2.1, (Y s).2.2.1, it)) I (va_up L (53 + 2 * s) f) := by
  obtain ⟨y0, y1, y2, y3⟩ := hS s hs
  refine xSH_u hS hs (by rw [y0, hh]) y1 y2 (fun k hk => ?_) (fun a ha => rfl) (fun a ha => xm_vu_o ha)
  simp only [va_up, if_true]
  exact hf k hk
theorem xSM_L {Y : xY} {I : Nat → Nat → Int32} {L L' : Nat → Nat → Int64} (hS : xSM Y I L) {s : Nat} (hs : s < 4) {it : Nat → Int64} (hh : (Y s).1 = true) (hf : ∀ k, k < 24 → L' 72 (24 * s + k) = it k) (hl : ∀ k, (k < 24 * s ∨ 24 * s + 24 ≤ k) → L' 72 k = L 72 k) : xSM (va_up Y s (true, (Y s).2.1, (Y s).2.2.1, it)) I L' := by
  obtain ⟨y0, y2, y3⟩ := hS s hs
  refine xSM_u hS hs ?_ y2 hf (fun k hk => ⟨rfl, rfl⟩) hl
  rw [y0, xln_t hh, xln_t rfl]
theorem xup_va {α : Type} {I : Nat → Nat → α} {a k : Nat} {v : α} : xm_up I a k v = va_up I a (va_up (I a) k v) := rfl
theorem xsx {s la : Nat} {x y : Int32} (hs : s < 4) (hl : la < 4) (ex : x = nI s) (ey : y = nI la) : 0 ≤ x.toInt ∧ x.toInt ≤ 3 ∧ 0 ≤ y.toInt ∧ y.toInt ≤ 3 := by
  subst ex
  subst ey
  rw [xt_n (by omega), xt_n (by omega)]
  omega
theorem c_item0 {d : Nat} {b : Bool} {I : Nat → Nat → Int32} {L : Nat → Nat → Int64} {Y : xY} (hS : xSH Y I L) (hY : xYK Y) {x y i : Int32} {v : Int64} (hx : ¬ (0 ≤ x.toInt ∧ x.toInt ≤ 3 ∧ 0 ≤ y.toInt ∧ y.toInt ≤ 3)) : xm_Z (d + 3) 104 [.ref 0, .int x, .int y, .int i, .long v] (xS b, I, L, xP b) (fun rz hz => xHC b I L (-1) Y rz hz) := by
  refine xw_S xb_104 (l := [.ref 0, .int x, .int y, .int i, .long v, .float 0, .float 0]) (Nat.le_of_ble_eq_true rfl) rfl ?_
  refine xw_go xb_104 5 (f1 := (5, [.ref 0, .int x, .int y, .int i, .long v, .float 0, .float 0], [.int 1, .int i, .int y, .int x, .ref 0])) (h1 := (xS b, I, L, xP b)) rfl trivial ?_
  refine xw_call xb_104 rfl rfl rfl rfl rfl (Or.inr ⟨_, _, rfl, rfl⟩) (c_refusal0 hx) ?_
  rintro _ _ ⟨rfl, rfl⟩
  refine xw_at (f' := (8, [.ref 0, .int x, .int y, .int i, .long v, .float 0, .float 0], [.int (-1)])) (h' := (xS b, I, L, xP b)) rfl rfl ?_
  refine xw_go xb_104 4 (f1 := (17, [.ref 0, .int x, .int y, .int i, .long v, .float 0, .int (-1)], [.int (-1)])) (h1 := (xS b, I, L, xP b)) rfl trivial ?_
  refine xw_ret xb_104 rfl rfl trivial ?_
  exact xHC_s hS

theorem c_item1 {d : Nat} {b : Bool} {I : Nat → Nat → Int32} {L : Nat → Nat → Int64} {Y : xY} (hS : xSH Y I L) (hY : xYK Y) {s : Nat} (hs : s < 4) {la : Nat} (bl : la < 4) {i : Int32} {v : Int64} (hw : xwy (Y s) la i 1 ≠ 0) {x : Int32} (e_x : x = nI s) {y : Int32} (e_y : y = nI la) : xm_Z (d + 3) 104 [.ref 0, .int x, .int y, .int i, .long v] (xS b, I, L, xP b) (fun rz hz => xHC b I L (xwy (Y s) la i 1) Y rz hz) := by
  subst e_x
  subst e_y
  refine xw_S xb_104 (l := [.ref 0, .int (nI s), .int (nI la), .int i, .long v, .float 0, .float 0]) (Nat.le_of_ble_eq_true rfl) rfl ?_
  refine xw_go xb_104 5 (f1 := (5, [.ref 0, .int (nI s), .int (nI la), .int i, .long v, .float 0, .float 0], [.int 1, .int i, .int (nI la), .int (nI s), .ref 0])) (h1 := (xS b, I, L, xP b)) rfl trivial ?_
  refine xw_call xb_104 rfl rfl rfl rfl rfl (Or.inr ⟨_, _, rfl, rfl⟩) (c_refusal1 hS hY hs bl rfl rfl) ?_
  rintro _ _ ⟨rfl, rfl⟩
  refine xw_at (f' := (8, [.ref 0, .int (nI s), .int (nI la), .int i, .long v, .float 0, .float 0], [.int (xwy (Y s) la i 1)])) (h' := (xS b, I, L, xP b)) rfl rfl ?_
  refine xw_go xb_104 3 (f1 := (if (xwy (Y s) la i 1) = 0 then 18 else 15, [.ref 0, .int (nI s), .int (nI la), .int i, .long v, .float 0, .int (xwy (Y s) la i 1)], [])) (h1 := (xS b, I, L, xP b)) rfl trivial ?_
  refine xw_if (fun c_12 => ?_) (fun c_12 => ?_)
  · skip
    exact absurd c_12 hw
  · skip
    refine xw_go xb_104 1 (f1 := (17, [.ref 0, .int (nI s), .int (nI la), .int i, .long v, .float 0, .int (xwy (Y s) la i 1)], [.int (xwy (Y s) la i 1)])) (h1 := (xS b, I, L, xP b)) rfl trivial ?_
    refine xw_ret xb_104 rfl rfl trivial ?_
    exact xHC_s hS

theorem c_item2 {d : Nat} {b : Bool} {I : Nat → Nat → Int32} {L : Nat → Nat → Int64} {Y : xY} (hS : xSH Y I L) (hY : xYK Y) {s : Nat} (hs : s < 4) {la : Nat} (bl : la < 4) {j : Nat} (bj : j < 2 ^ 31) {v : Int64} (hw : xwy (Y s) la (nI j) 1 = 0) {x : Int32} (e_x : x = nI s) {y : Int32} (e_y : y = nI la) {z : Int32} (e_z : z = nI j) : xm_Z (d + 4) 104 [.ref 0, .int x, .int y, .int z, .long v] (xS b, I, L, xP b) (fun rz hz => xHC b I L (1) (va_up Y s (true, (Y s).2.1, (Y s).2.2.1, va_up (Y s).2.2.2 j (xct la v))) rz hz) := by
  subst e_x
  subst e_y
  subst e_z
  have s2 : (xS b)[52 + 2 * s]? = some (10, 4) := xS_52 hs
  have s3 : (xS b)[53 + 2 * s]? = some (1, 24) := xS_53 hs
  obtain ⟨y0, y1, y2, y3⟩ := hS s hs
  have hk := hY s hs
  obtain ⟨w1, w2, w3, w4, w5⟩ := xwy_0 hw
  have hj : j < (Y s).2.2.1 := by rw [xt_n bj, show (1 : Int32).toInt = 1 from rfl] at w5; omega
  refine xw_S xb_104 (l := [.ref 0, .int (nI s), .int (nI la), .int (nI j), .long v, .float 0, .float 0]) (Nat.le_of_ble_eq_true rfl) rfl ?_
  refine xw_go xb_104 5 (f1 := (5, [.ref 0, .int (nI s), .int (nI la), .int (nI j), .long v, .float 0, .float 0], [.int 1, .int (nI j), .int (nI la), .int (nI s), .ref 0])) (h1 := (xS b, I, L, xP b)) rfl trivial ?_
  refine xw_call xb_104 rfl rfl rfl rfl rfl (Or.inr ⟨_, _, rfl, rfl⟩) (c_refusal1 hS hY hs bl rfl rfl) ?_
  rintro _ _ ⟨rfl, rfl⟩
  refine xw_at (f' := (8, [.ref 0, .int (nI s), .int (nI la), .int (nI j), .long v, .float 0, .float 0], [.int (xwy (Y s) la (nI j) 1)])) (h' := (xS b, I, L, xP b)) rfl rfl ?_
  refine xw_go xb_104 3 (f1 := (if (xwy (Y s) la (nI j) 1) = 0 then 18 else 15, [.ref 0, .int (nI s), .int (nI la), .int (nI j), .long v, .float 0, .int (xwy (Y s) la (nI j) 1)], [])) (h1 := (xS b, I, L, xP b)) rfl trivial ?_
  refine xw_if (fun c_12 => ?_) (fun c_12 => ?_)
  · skip
    refine xw_go xb_104 4 (f1 := (24, [.ref 0, .int (nI s), .int (nI la), .int (nI j), .long v, .float 0, .int (xwy (Y s) la (nI j) 1)], [xm_o (xP b 51 (nI s).toNatClampNeg)])) (h1 := (xS b, I, L, xP b)) rfl ⟨rfl, (xn_ar (n := s) (N := 4) rfl (by omega) (by decide)), ⟨Nat.le_of_ble_eq_true rfl, Nat.le_of_ble_eq_true rfl⟩, trivial⟩ ?_
    refine xw_cong (l' := [.ref 0, .int (nI s), .int (nI la), .int (nI j), .long v, .float 0, .int (xwy (Y s) la (nI j) 1)]) (st' := [.ref (52 + 2 * s)]) (h' := (xS b, I, L, xP b)) rfl (show ([xm_o (xP b 51 (nI s).toNatClampNeg)] : List Value) = [.ref (52 + 2 * s)] from ?_) rfl ?_
    · rw [xn_cl (by omega), xP_51 hs]
      rfl
    refine xw_go xb_104 2 (f1 := (27, [.ref 0, .int (nI s), .int (nI la), .int (nI j), .long v, .float 0, .int (xwy (Y s) la (nI j) 1)], [.long v, .int (nI j), .ref (52 + 2 * s)])) (h1 := (xS b, I, L, xP b)) rfl trivial ?_
    refine xw_call xb_104 rfl rfl rfl rfl rfl (Or.inr ⟨_, _, rfl, s2⟩) (c_put (I := I) hs (y1.trans (congrArg nI w2)) bl y2 hk.2 hj rfl) ?_
    rintro _ _ ⟨rfl, rfl⟩
    refine xw_at (f' := (30, [.ref 0, .int (nI s), .int (nI la), .int (nI j), .long v, .float 0, .int (xwy (Y s) la (nI j) 1)], [])) (h' := (xS b, I, xm_up L (53 + 2 * s) j (xct la v), xP b)) rfl rfl ?_
    refine xw_go xb_104 1 (f1 := (31, [.ref 0, .int (nI s), .int (nI la), .int (nI j), .long v, .float 0, .int (xwy (Y s) la (nI j) 1)], [.int 1])) (h1 := (xS b, I, xm_up L (53 + 2 * s) j (xct la v), xP b)) rfl trivial ?_
    refine xw_ret xb_104 rfl rfl trivial ?_
    refine ⟨rfl, _, _, rfl, ?_, ?_⟩
    · rw [xup_va]
      refine xSH_L hS hs w1 fun k hk => ?_
      by_cases e : k = j
      · subst e
        simp only [va_up, if_true]
      · simp only [va_up, e, if_false]
        exact y3 k hk
    · intro a ha
      rw [xm_up_o (by omega)]
      exact ⟨rfl, rfl⟩
  · skip
    exact absurd hw c_12

theorem c_film0 {d : Nat} {b : Bool} {I : Nat → Nat → Int32} {L : Nat → Nat → Int64} {N : Nat → Nat} {u : Nat} {U : Nat → Nat → Nat} (hP : xPL N u U 1 I) (hK : xUK N u U) {Y : xY} (hS : xSH Y I L) (hY : xYK Y) {x y z w i : Int32} (hx : ¬ (0 ≤ x.toInt ∧ x.toInt < ((N 0 * N 1 : Nat) : Int) ∧ 1 ≤ y.toInt ∧ y.toInt ≤ 24 ∧ x.toInt + y.toInt ≤ ((N 0 * N 1 : Nat) : Int))) : xm_Z (d + 3) 97 [.ref 0, .int x, .int y, .int z, .int w, .int i] (xS b, I, L, xP b) (fun rz hz => xHC b I L (-1) Y rz hz) := by
  have hO := hK.1
  have hb := hK.1.1
  have c64 : N 0 * N 1 ≤ 64 := xce_le hO
  have c4 : 4 ≤ N 0 * N 1 := xce_ge hO
  obtain ⟨⟨hN0, hN1, hN2, hN3, hN4, hN5, hN6, hN7, hN8, hN9, hN10⟩, hNs, hNw, hNp⟩ := hP.1
  refine xw_S xb_97 (l := [.ref 0, .int x, .int y, .int z, .int w, .int i, .float 0, .float 0]) (Nat.le_of_ble_eq_true rfl) rfl ?_
  refine xw_go xb_97 3 (f1 := (5, [.ref 0, .int x, .int y, .int z, .int w, .int i, .float 0, .float 0], [.int x, .ref 1])) (h1 := (xS b, I, L, xP b)) rfl ⟨rfl, trivial⟩ ?_
  refine xw_call xb_97 rfl rfl rfl rfl rfl (Or.inr ⟨_, _, rfl, rfl⟩) (c_hasCell (I := I) hN0 hN1 (by omega) (by omega) (by omega)) ?_
  rintro _ _ ⟨rfl, rfl⟩
  refine xw_at (f' := (8, [.ref 0, .int x, .int y, .int z, .int w, .int i, .float 0, .float 0], [.int (nI (xB (decide (0 ≤ x.toInt ∧ x.toInt < ((N 0 * N 1 : Nat) : Int)))))])) (h' := (xS b, I, L, xP b)) rfl rfl ?_
  refine xw_go xb_97 1 (f1 := (if (nI (xB (decide (0 ≤ x.toInt ∧ x.toInt < ((N 0 * N 1 : Nat) : Int))))) = 0 then 34 else 11, [.ref 0, .int x, .int y, .int z, .int w, .int i, .float 0, .float 0], [])) (h1 := (xS b, I, L, xP b)) rfl trivial ?_
  refine xw_if (fun c_8 => ?_) (fun c_8 => ?_)
  · skip
    refine xw_go xb_97 1 (f1 := (35, [.ref 0, .int x, .int y, .int z, .int w, .int i, .float 0, .float 0], [.int (-1)])) (h1 := (xS b, I, L, xP b)) rfl trivial ?_
    refine xw_ret xb_97 rfl rfl trivial ?_
    exact xHC_s hS
  · skip
    refine xw_go xb_97 3 (f1 := (15, [.ref 0, .int x, .int y, .int z, .int w, .int i, .float 0, .float 0], [.int 24, .int 1, .int y])) (h1 := (xS b, I, L, xP b)) rfl trivial ?_
    refine xw_call xb_97 rfl rfl rfl rfl rfl (Or.inl rfl) c_within ?_
    rintro _ _ ⟨rfl, rfl⟩
    refine xw_at (f' := (18, [.ref 0, .int x, .int y, .int z, .int w, .int i, .float 0, .float 0], [.int (nI (xB (decide ((1 : Int32).toInt ≤ y.toInt ∧ y.toInt ≤ (24 : Int32).toInt))))])) (h' := (xS b, I, L, xP b)) rfl rfl ?_
    refine xw_go xb_97 1 (f1 := (if (nI (xB (decide ((1 : Int32).toInt ≤ y.toInt ∧ y.toInt ≤ (24 : Int32).toInt)))) = 0 then 34 else 21, [.ref 0, .int x, .int y, .int z, .int w, .int i, .float 0, .float 0], [])) (h1 := (xS b, I, L, xP b)) rfl trivial ?_
    refine xw_if (fun c_18 => ?_) (fun c_18 => ?_)
    · skip
      refine xw_go xb_97 1 (f1 := (35, [.ref 0, .int x, .int y, .int z, .int w, .int i, .float 0, .float 0], [.int (-1)])) (h1 := (xS b, I, L, xP b)) rfl trivial ?_
      refine xw_ret xb_97 rfl rfl trivial ?_
      exact xHC_s hS
    · skip
      refine xw_go xb_97 3 (f1 := (26, [.ref 0, .int x, .int y, .int z, .int w, .int i, .float 0, .float 0], [.ref 1, .int x])) (h1 := (xS b, I, L, xP b)) rfl ⟨rfl, trivial⟩ ?_
      refine xw_call xb_97 rfl rfl rfl rfl rfl (Or.inr ⟨_, _, rfl, rfl⟩) (c_cells (I := I) hN0 hN1) ?_
      rintro _ _ ⟨rfl, rfl⟩
      refine xw_at (f' := (29, [.ref 0, .int x, .int y, .int z, .int w, .int i, .float 0, .float 0], [.int (nI (N 0 * N 1)), .int x])) (h' := (xS b, I, L, xP b)) rfl rfl ?_
      refine xw_go xb_97 3 (f1 := (if x ≤ ((nI (N 0 * N 1)) - y) then 36 else 34, [.ref 0, .int x, .int y, .int z, .int w, .int i, .float 0, .float 0], [])) (h1 := (xS b, I, L, xP b)) rfl trivial ?_
      refine xw_if (fun c_31 => ?_) (fun c_31 => ?_)
      · skip
        exfalso
        try simp only [xB_dec, Classical.not_not] at c_8 c_18 c_31
        try simp (disch := omega) only [xt_eq, xt_lt, xt_le, xkt_0, xkt_1, xkt_2, xkt_3, xkt_4, xkt_5, xkt_6, xkt_7, xkt_8, xkt_9, xkt_10, xkt_11, xkt_12, xkt_13, xkt_14, xkt_16, xkt_20, xkt_24, xkt_31, xkt_32, xkt_40, xkt_44, xkt_47, xkt_48, xkt_57, xkt_59, xkt_60, xkt_63, xkt_64, xkt_65, xkt_72, xkt_95, xkt_99, xkt_100, xkt_101, xkt_103, xkt_110, xkt_112, xkt_113, xkt_114, xkt_119, xkt_126, xkt_159, xkt_576, xkt_999, xkt_9999, xkt_65536, xkt_999999, xkt_m1, xkt_m2, xkt_m3, xkt_m4, xkt_m11, xkt_m12, xkt_m13, xkt_m14, xkt_m20, xjt_0, xjt_1, xjt_2, xjt_3, xjt_4, xjt_5, xjt_6, xjt_7, xjt_8, xjt_9, xjt_10, xjt_11, xjt_12, xjt_13, xjt_14, xjt_16, xjt_20, xjt_24, xjt_31, xjt_32, xjt_40, xjt_44, xjt_47, xjt_48, xjt_57, xjt_59, xjt_60, xjt_63, xjt_64, xjt_65, xjt_72, xjt_95, xjt_99, xjt_100, xjt_101, xjt_103, xjt_110, xjt_112, xjt_113, xjt_114, xjt_119, xjt_126, xjt_159, xjt_576, xjt_999, xjt_9999, xjt_65536, xjt_999999, xt64, xt_n, not_true_eq_false, not_false_eq_true, Classical.not_not] at c_8 c_18 c_31
        have e1 : 1 ≤ y.toInt → y.toInt ≤ 24 → (nI (N 0 * N 1) - y).toInt = ((N 0 * N 1 : Nat) : Int) - y.toInt := fun q1 q2 => by
          rw [Int32.toInt_sub, xt_n (by omega)]
          exact Int.bmod_eq_of_le (by omega) (by omega)
        have e2 := e1 (by omega) (by omega)
        all_goals omega
      · skip
        refine xw_go xb_97 1 (f1 := (35, [.ref 0, .int x, .int y, .int z, .int w, .int i, .float 0, .float 0], [.int (-1)])) (h1 := (xS b, I, L, xP b)) rfl trivial ?_
        refine xw_ret xb_97 rfl rfl trivial ?_
        exact xHC_s hS

theorem c_film1 {d : Nat} {b : Bool} {I : Nat → Nat → Int32} {L : Nat → Nat → Int64} {N : Nat → Nat} {u : Nat} {U : Nat → Nat → Nat} (hP : xPL N u U 1 I) (hK : xUK N u U) {Y : xY} (hS : xSH Y I L) (hY : xYK Y) {c n : Nat} (hc : c < N 0 * N 1) (hn : 1 ≤ n ∧ n ≤ 24) (hcn : c + n ≤ N 0 * N 1) {x y i : Int32} (hx : ¬ (0 ≤ x.toInt ∧ x.toInt ≤ 3 ∧ 0 ≤ y.toInt ∧ y.toInt ≤ 3)) {p : Int32} (e_p : p = nI c) {q : Int32} (e_q : q = nI n) : xm_Z (d + 3) 97 [.ref 0, .int p, .int q, .int x, .int y, .int i] (xS b, I, L, xP b) (fun rz hz => xHC b I L (-1) Y rz hz) := by
  subst e_p
  subst e_q
  have hO := hK.1
  have hb := hK.1.1
  have c64 : N 0 * N 1 ≤ 64 := xce_le hO
  have c4 : 4 ≤ N 0 * N 1 := xce_ge hO
  obtain ⟨⟨hN0, hN1, hN2, hN3, hN4, hN5, hN6, hN7, hN8, hN9, hN10⟩, hNs, hNw, hNp⟩ := hP.1
  refine xw_S xb_97 (l := [.ref 0, .int (nI c), .int (nI n), .int x, .int y, .int i, .float 0, .float 0]) (Nat.le_of_ble_eq_true rfl) rfl ?_
  refine xw_go xb_97 3 (f1 := (5, [.ref 0, .int (nI c), .int (nI n), .int x, .int y, .int i, .float 0, .float 0], [.int (nI c), .ref 1])) (h1 := (xS b, I, L, xP b)) rfl ⟨rfl, trivial⟩ ?_
  refine xw_call xb_97 rfl rfl rfl rfl rfl (Or.inr ⟨_, _, rfl, rfl⟩) (c_hasCell (I := I) hN0 hN1 (by omega) (by omega) (by omega)) ?_
  rintro _ _ ⟨rfl, rfl⟩
  refine xw_at (f' := (8, [.ref 0, .int (nI c), .int (nI n), .int x, .int y, .int i, .float 0, .float 0], [.int (nI (xB (decide (0 ≤ (nI c).toInt ∧ (nI c).toInt < ((N 0 * N 1 : Nat) : Int)))))])) (h' := (xS b, I, L, xP b)) rfl rfl ?_
  refine xw_go xb_97 1 (f1 := (if (nI (xB (decide (0 ≤ (nI c).toInt ∧ (nI c).toInt < ((N 0 * N 1 : Nat) : Int))))) = 0 then 34 else 11, [.ref 0, .int (nI c), .int (nI n), .int x, .int y, .int i, .float 0, .float 0], [])) (h1 := (xS b, I, L, xP b)) rfl trivial ?_
  refine xw_if (fun c_8 => ?_) (fun c_8 => ?_)
  · skip
    exfalso
    try simp only [xB_dec, Classical.not_not] at c_8
    try simp (disch := omega) only [xn_sub, xt_eq, xt_lt, xt_le, xkt_0, xkt_1, xkt_2, xkt_3, xkt_4, xkt_5, xkt_6, xkt_7, xkt_8, xkt_9, xkt_10, xkt_11, xkt_12, xkt_13, xkt_14, xkt_16, xkt_20, xkt_24, xkt_31, xkt_32, xkt_40, xkt_44, xkt_47, xkt_48, xkt_57, xkt_59, xkt_60, xkt_63, xkt_64, xkt_65, xkt_72, xkt_95, xkt_99, xkt_100, xkt_101, xkt_103, xkt_110, xkt_112, xkt_113, xkt_114, xkt_119, xkt_126, xkt_159, xkt_576, xkt_999, xkt_9999, xkt_65536, xkt_999999, xkt_m1, xkt_m2, xkt_m3, xkt_m4, xkt_m11, xkt_m12, xkt_m13, xkt_m14, xkt_m20, xjt_0, xjt_1, xjt_2, xjt_3, xjt_4, xjt_5, xjt_6, xjt_7, xjt_8, xjt_9, xjt_10, xjt_11, xjt_12, xjt_13, xjt_14, xjt_16, xjt_20, xjt_24, xjt_31, xjt_32, xjt_40, xjt_44, xjt_47, xjt_48, xjt_57, xjt_59, xjt_60, xjt_63, xjt_64, xjt_65, xjt_72, xjt_95, xjt_99, xjt_100, xjt_101, xjt_103, xjt_110, xjt_112, xjt_113, xjt_114, xjt_119, xjt_126, xjt_159, xjt_576, xjt_999, xjt_9999, xjt_65536, xjt_999999, xt64, xt_n, not_true_eq_false, not_false_eq_true, Classical.not_not] at c_8
    all_goals omega
  · skip
    refine xw_go xb_97 3 (f1 := (15, [.ref 0, .int (nI c), .int (nI n), .int x, .int y, .int i, .float 0, .float 0], [.int 24, .int 1, .int (nI n)])) (h1 := (xS b, I, L, xP b)) rfl trivial ?_
    refine xw_call xb_97 rfl rfl rfl rfl rfl (Or.inl rfl) c_within ?_
    rintro _ _ ⟨rfl, rfl⟩
    refine xw_at (f' := (18, [.ref 0, .int (nI c), .int (nI n), .int x, .int y, .int i, .float 0, .float 0], [.int (nI (xB (decide ((1 : Int32).toInt ≤ (nI n).toInt ∧ (nI n).toInt ≤ (24 : Int32).toInt))))])) (h' := (xS b, I, L, xP b)) rfl rfl ?_
    refine xw_go xb_97 1 (f1 := (if (nI (xB (decide ((1 : Int32).toInt ≤ (nI n).toInt ∧ (nI n).toInt ≤ (24 : Int32).toInt)))) = 0 then 34 else 21, [.ref 0, .int (nI c), .int (nI n), .int x, .int y, .int i, .float 0, .float 0], [])) (h1 := (xS b, I, L, xP b)) rfl trivial ?_
    refine xw_if (fun c_18 => ?_) (fun c_18 => ?_)
    · skip
      exfalso
      try simp only [xB_dec, Classical.not_not] at c_8 c_18
      try simp (disch := omega) only [xn_sub, xt_eq, xt_lt, xt_le, xkt_0, xkt_1, xkt_2, xkt_3, xkt_4, xkt_5, xkt_6, xkt_7, xkt_8, xkt_9, xkt_10, xkt_11, xkt_12, xkt_13, xkt_14, xkt_16, xkt_20, xkt_24, xkt_31, xkt_32, xkt_40, xkt_44, xkt_47, xkt_48, xkt_57, xkt_59, xkt_60, xkt_63, xkt_64, xkt_65, xkt_72, xkt_95, xkt_99, xkt_100, xkt_101, xkt_103, xkt_110, xkt_112, xkt_113, xkt_114, xkt_119, xkt_126, xkt_159, xkt_576, xkt_999, xkt_9999, xkt_65536, xkt_999999, xkt_m1, xkt_m2, xkt_m3, xkt_m4, xkt_m11, xkt_m12, xkt_m13, xkt_m14, xkt_m20, xjt_0, xjt_1, xjt_2, xjt_3, xjt_4, xjt_5, xjt_6, xjt_7, xjt_8, xjt_9, xjt_10, xjt_11, xjt_12, xjt_13, xjt_14, xjt_16, xjt_20, xjt_24, xjt_31, xjt_32, xjt_40, xjt_44, xjt_47, xjt_48, xjt_57, xjt_59, xjt_60, xjt_63, xjt_64, xjt_65, xjt_72, xjt_95, xjt_99, xjt_100, xjt_101, xjt_103, xjt_110, xjt_112, xjt_113, xjt_114, xjt_119, xjt_126, xjt_159, xjt_576, xjt_999, xjt_9999, xjt_65536, xjt_999999, xt64, xt_n, not_true_eq_false, not_false_eq_true, Classical.not_not] at c_8 c_18
      all_goals omega
    · skip
      refine xw_go xb_97 3 (f1 := (26, [.ref 0, .int (nI c), .int (nI n), .int x, .int y, .int i, .float 0, .float 0], [.ref 1, .int (nI c)])) (h1 := (xS b, I, L, xP b)) rfl ⟨rfl, trivial⟩ ?_
      refine xw_call xb_97 rfl rfl rfl rfl rfl (Or.inr ⟨_, _, rfl, rfl⟩) (c_cells (I := I) hN0 hN1) ?_
      rintro _ _ ⟨rfl, rfl⟩
      refine xw_at (f' := (29, [.ref 0, .int (nI c), .int (nI n), .int x, .int y, .int i, .float 0, .float 0], [.int (nI (N 0 * N 1)), .int (nI c)])) (h' := (xS b, I, L, xP b)) rfl rfl ?_
      refine xw_go xb_97 3 (f1 := (if (nI c) ≤ ((nI (N 0 * N 1)) - (nI n)) then 36 else 34, [.ref 0, .int (nI c), .int (nI n), .int x, .int y, .int i, .float 0, .float 0], [])) (h1 := (xS b, I, L, xP b)) rfl trivial ?_
      refine xw_if (fun c_31 => ?_) (fun c_31 => ?_)
      · skip
        refine xw_go xb_97 5 (f1 := (43, [.ref 0, .int (nI c), .int (nI n), .int x, .int y, .int i, .float 0, .float 0], [.int (nI n), .int i, .int y, .int x, .ref 0])) (h1 := (xS b, I, L, xP b)) rfl trivial ?_
        refine xw_call xb_97 rfl rfl rfl rfl rfl (Or.inr ⟨_, _, rfl, rfl⟩) (c_refusal0 hx) ?_
        rintro _ _ ⟨rfl, rfl⟩
        refine xw_at (f' := (46, [.ref 0, .int (nI c), .int (nI n), .int x, .int y, .int i, .float 0, .float 0], [.int (-1)])) (h' := (xS b, I, L, xP b)) rfl rfl ?_
        refine xw_go xb_97 4 (f1 := (55, [.ref 0, .int (nI c), .int (nI n), .int x, .int y, .int i, .int (-1), .float 0], [.int (-1)])) (h1 := (xS b, I, L, xP b)) rfl trivial ?_
        refine xw_ret xb_97 rfl rfl trivial ?_
        exact xHC_s hS
      · skip
        exfalso
        try simp only [xB_dec, Classical.not_not] at c_8 c_18 c_31
        try simp (disch := omega) only [xn_sub, xt_eq, xt_lt, xt_le, xkt_0, xkt_1, xkt_2, xkt_3, xkt_4, xkt_5, xkt_6, xkt_7, xkt_8, xkt_9, xkt_10, xkt_11, xkt_12, xkt_13, xkt_14, xkt_16, xkt_20, xkt_24, xkt_31, xkt_32, xkt_40, xkt_44, xkt_47, xkt_48, xkt_57, xkt_59, xkt_60, xkt_63, xkt_64, xkt_65, xkt_72, xkt_95, xkt_99, xkt_100, xkt_101, xkt_103, xkt_110, xkt_112, xkt_113, xkt_114, xkt_119, xkt_126, xkt_159, xkt_576, xkt_999, xkt_9999, xkt_65536, xkt_999999, xkt_m1, xkt_m2, xkt_m3, xkt_m4, xkt_m11, xkt_m12, xkt_m13, xkt_m14, xkt_m20, xjt_0, xjt_1, xjt_2, xjt_3, xjt_4, xjt_5, xjt_6, xjt_7, xjt_8, xjt_9, xjt_10, xjt_11, xjt_12, xjt_13, xjt_14, xjt_16, xjt_20, xjt_24, xjt_31, xjt_32, xjt_40, xjt_44, xjt_47, xjt_48, xjt_57, xjt_59, xjt_60, xjt_63, xjt_64, xjt_65, xjt_72, xjt_95, xjt_99, xjt_100, xjt_101, xjt_103, xjt_110, xjt_112, xjt_113, xjt_114, xjt_119, xjt_126, xjt_159, xjt_576, xjt_999, xjt_9999, xjt_65536, xjt_999999, xt64, xt_n, not_true_eq_false, not_false_eq_true, Classical.not_not] at c_8 c_18 c_31
        all_goals omega

theorem c_film2 {d : Nat} {b : Bool} {I : Nat → Nat → Int32} {L : Nat → Nat → Int64} {N : Nat → Nat} {u : Nat} {U : Nat → Nat → Nat} (hP : xPL N u U 1 I) (hK : xUK N u U) {Y : xY} (hS : xSH Y I L) (hY : xYK Y) {c n : Nat} (hc : c < N 0 * N 1) (hn : 1 ≤ n ∧ n ≤ 24) (hcn : c + n ≤ N 0 * N 1) {s : Nat} (hs : s < 4) {la : Nat} (bl : la < 4) {i : Int32} (hw : xwy (Y s) la i (nI n) ≠ 0) {p : Int32} (e_p : p = nI c) {q : Int32} (e_q : q = nI n) {x : Int32} (e_x : x = nI s) {y : Int32} (e_y : y = nI la) : xm_Z (d + 3) 97 [.ref 0, .int p, .int q, .int x, .int y, .int i] (xS b, I, L, xP b) (fun rz hz => xHC b I L (xwy (Y s) la i (nI n)) Y rz hz) := by
  subst e_p
  subst e_q
  subst e_x
  subst e_y
  have hO := hK.1
  have hb := hK.1.1
  have c64 : N 0 * N 1 ≤ 64 := xce_le hO
  have c4 : 4 ≤ N 0 * N 1 := xce_ge hO
  obtain ⟨⟨hN0, hN1, hN2, hN3, hN4, hN5, hN6, hN7, hN8, hN9, hN10⟩, hNs, hNw, hNp⟩ := hP.1
  refine xw_S xb_97 (l := [.ref 0, .int (nI c), .int (nI n), .int (nI s), .int (nI la), .int i, .float 0, .float 0]) (Nat.le_of_ble_eq_true rfl) rfl ?_
  refine xw_go xb_97 3 (f1 := (5, [.ref 0, .int (nI c), .int (nI n), .int (nI s), .int (nI la), .int i, .float 0, .float 0], [.int (nI c), .ref 1])) (h1 := (xS b, I, L, xP b)) rfl ⟨rfl, trivial⟩ ?_
  refine xw_call xb_97 rfl rfl rfl rfl rfl (Or.inr ⟨_, _, rfl, rfl⟩) (c_hasCell (I := I) hN0 hN1 (by omega) (by omega) (by omega)) ?_
  rintro _ _ ⟨rfl, rfl⟩
  refine xw_at (f' := (8, [.ref 0, .int (nI c), .int (nI n), .int (nI s), .int (nI la), .int i, .float 0, .float 0], [.int (nI (xB (decide (0 ≤ (nI c).toInt ∧ (nI c).toInt < ((N 0 * N 1 : Nat) : Int)))))])) (h' := (xS b, I, L, xP b)) rfl rfl ?_
  refine xw_go xb_97 1 (f1 := (if (nI (xB (decide (0 ≤ (nI c).toInt ∧ (nI c).toInt < ((N 0 * N 1 : Nat) : Int))))) = 0 then 34 else 11, [.ref 0, .int (nI c), .int (nI n), .int (nI s), .int (nI la), .int i, .float 0, .float 0], [])) (h1 := (xS b, I, L, xP b)) rfl trivial ?_
  refine xw_if (fun c_8 => ?_) (fun c_8 => ?_)
  · skip
    exfalso
    try simp only [xB_dec, Classical.not_not] at c_8
    try simp (disch := omega) only [xn_sub, xt_eq, xt_lt, xt_le, xkt_0, xkt_1, xkt_2, xkt_3, xkt_4, xkt_5, xkt_6, xkt_7, xkt_8, xkt_9, xkt_10, xkt_11, xkt_12, xkt_13, xkt_14, xkt_16, xkt_20, xkt_24, xkt_31, xkt_32, xkt_40, xkt_44, xkt_47, xkt_48, xkt_57, xkt_59, xkt_60, xkt_63, xkt_64, xkt_65, xkt_72, xkt_95, xkt_99, xkt_100, xkt_101, xkt_103, xkt_110, xkt_112, xkt_113, xkt_114, xkt_119, xkt_126, xkt_159, xkt_576, xkt_999, xkt_9999, xkt_65536, xkt_999999, xkt_m1, xkt_m2, xkt_m3, xkt_m4, xkt_m11, xkt_m12, xkt_m13, xkt_m14, xkt_m20, xjt_0, xjt_1, xjt_2, xjt_3, xjt_4, xjt_5, xjt_6, xjt_7, xjt_8, xjt_9, xjt_10, xjt_11, xjt_12, xjt_13, xjt_14, xjt_16, xjt_20, xjt_24, xjt_31, xjt_32, xjt_40, xjt_44, xjt_47, xjt_48, xjt_57, xjt_59, xjt_60, xjt_63, xjt_64, xjt_65, xjt_72, xjt_95, xjt_99, xjt_100, xjt_101, xjt_103, xjt_110, xjt_112, xjt_113, xjt_114, xjt_119, xjt_126, xjt_159, xjt_576, xjt_999, xjt_9999, xjt_65536, xjt_999999, xt64, xt_n, not_true_eq_false, not_false_eq_true, Classical.not_not] at c_8
    all_goals omega
  · skip
    refine xw_go xb_97 3 (f1 := (15, [.ref 0, .int (nI c), .int (nI n), .int (nI s), .int (nI la), .int i, .float 0, .float 0], [.int 24, .int 1, .int (nI n)])) (h1 := (xS b, I, L, xP b)) rfl trivial ?_
    refine xw_call xb_97 rfl rfl rfl rfl rfl (Or.inl rfl) c_within ?_
    rintro _ _ ⟨rfl, rfl⟩
    refine xw_at (f' := (18, [.ref 0, .int (nI c), .int (nI n), .int (nI s), .int (nI la), .int i, .float 0, .float 0], [.int (nI (xB (decide ((1 : Int32).toInt ≤ (nI n).toInt ∧ (nI n).toInt ≤ (24 : Int32).toInt))))])) (h' := (xS b, I, L, xP b)) rfl rfl ?_
    refine xw_go xb_97 1 (f1 := (if (nI (xB (decide ((1 : Int32).toInt ≤ (nI n).toInt ∧ (nI n).toInt ≤ (24 : Int32).toInt)))) = 0 then 34 else 21, [.ref 0, .int (nI c), .int (nI n), .int (nI s), .int (nI la), .int i, .float 0, .float 0], [])) (h1 := (xS b, I, L, xP b)) rfl trivial ?_
    refine xw_if (fun c_18 => ?_) (fun c_18 => ?_)
    · skip
      exfalso
      try simp only [xB_dec, Classical.not_not] at c_8 c_18
      try simp (disch := omega) only [xn_sub, xt_eq, xt_lt, xt_le, xkt_0, xkt_1, xkt_2, xkt_3, xkt_4, xkt_5, xkt_6, xkt_7, xkt_8, xkt_9, xkt_10, xkt_11, xkt_12, xkt_13, xkt_14, xkt_16, xkt_20, xkt_24, xkt_31, xkt_32, xkt_40, xkt_44, xkt_47, xkt_48, xkt_57, xkt_59, xkt_60, xkt_63, xkt_64, xkt_65, xkt_72, xkt_95, xkt_99, xkt_100, xkt_101, xkt_103, xkt_110, xkt_112, xkt_113, xkt_114, xkt_119, xkt_126, xkt_159, xkt_576, xkt_999, xkt_9999, xkt_65536, xkt_999999, xkt_m1, xkt_m2, xkt_m3, xkt_m4, xkt_m11, xkt_m12, xkt_m13, xkt_m14, xkt_m20, xjt_0, xjt_1, xjt_2, xjt_3, xjt_4, xjt_5, xjt_6, xjt_7, xjt_8, xjt_9, xjt_10, xjt_11, xjt_12, xjt_13, xjt_14, xjt_16, xjt_20, xjt_24, xjt_31, xjt_32, xjt_40, xjt_44, xjt_47, xjt_48, xjt_57, xjt_59, xjt_60, xjt_63, xjt_64, xjt_65, xjt_72, xjt_95, xjt_99, xjt_100, xjt_101, xjt_103, xjt_110, xjt_112, xjt_113, xjt_114, xjt_119, xjt_126, xjt_159, xjt_576, xjt_999, xjt_9999, xjt_65536, xjt_999999, xt64, xt_n, not_true_eq_false, not_false_eq_true, Classical.not_not] at c_8 c_18
      all_goals omega
    · skip
      refine xw_go xb_97 3 (f1 := (26, [.ref 0, .int (nI c), .int (nI n), .int (nI s), .int (nI la), .int i, .float 0, .float 0], [.ref 1, .int (nI c)])) (h1 := (xS b, I, L, xP b)) rfl ⟨rfl, trivial⟩ ?_
      refine xw_call xb_97 rfl rfl rfl rfl rfl (Or.inr ⟨_, _, rfl, rfl⟩) (c_cells (I := I) hN0 hN1) ?_
      rintro _ _ ⟨rfl, rfl⟩
      refine xw_at (f' := (29, [.ref 0, .int (nI c), .int (nI n), .int (nI s), .int (nI la), .int i, .float 0, .float 0], [.int (nI (N 0 * N 1)), .int (nI c)])) (h' := (xS b, I, L, xP b)) rfl rfl ?_
      refine xw_go xb_97 3 (f1 := (if (nI c) ≤ ((nI (N 0 * N 1)) - (nI n)) then 36 else 34, [.ref 0, .int (nI c), .int (nI n), .int (nI s), .int (nI la), .int i, .float 0, .float 0], [])) (h1 := (xS b, I, L, xP b)) rfl trivial ?_
      refine xw_if (fun c_31 => ?_) (fun c_31 => ?_)
      · skip
        refine xw_go xb_97 5 (f1 := (43, [.ref 0, .int (nI c), .int (nI n), .int (nI s), .int (nI la), .int i, .float 0, .float 0], [.int (nI n), .int i, .int (nI la), .int (nI s), .ref 0])) (h1 := (xS b, I, L, xP b)) rfl trivial ?_
        refine xw_call xb_97 rfl rfl rfl rfl rfl (Or.inr ⟨_, _, rfl, rfl⟩) (c_refusal1 hS hY hs bl rfl rfl) ?_
        rintro _ _ ⟨rfl, rfl⟩
        refine xw_at (f' := (46, [.ref 0, .int (nI c), .int (nI n), .int (nI s), .int (nI la), .int i, .float 0, .float 0], [.int (xwy (Y s) la i (nI n))])) (h' := (xS b, I, L, xP b)) rfl rfl ?_
        refine xw_go xb_97 3 (f1 := (if (xwy (Y s) la i (nI n)) = 0 then 56 else 53, [.ref 0, .int (nI c), .int (nI n), .int (nI s), .int (nI la), .int i, .int (xwy (Y s) la i (nI n)), .float 0], [])) (h1 := (xS b, I, L, xP b)) rfl trivial ?_
        refine xw_if (fun c_50 => ?_) (fun c_50 => ?_)
        · skip
          exact absurd c_50 hw
        · skip
          refine xw_go xb_97 1 (f1 := (55, [.ref 0, .int (nI c), .int (nI n), .int (nI s), .int (nI la), .int i, .int (xwy (Y s) la i (nI n)), .float 0], [.int (xwy (Y s) la i (nI n))])) (h1 := (xS b, I, L, xP b)) rfl trivial ?_
          refine xw_ret xb_97 rfl rfl trivial ?_
          exact xHC_s hS
      · skip
        exfalso
        try simp only [xB_dec, Classical.not_not] at c_8 c_18 c_31
        try simp (disch := omega) only [xn_sub, xt_eq, xt_lt, xt_le, xkt_0, xkt_1, xkt_2, xkt_3, xkt_4, xkt_5, xkt_6, xkt_7, xkt_8, xkt_9, xkt_10, xkt_11, xkt_12, xkt_13, xkt_14, xkt_16, xkt_20, xkt_24, xkt_31, xkt_32, xkt_40, xkt_44, xkt_47, xkt_48, xkt_57, xkt_59, xkt_60, xkt_63, xkt_64, xkt_65, xkt_72, xkt_95, xkt_99, xkt_100, xkt_101, xkt_103, xkt_110, xkt_112, xkt_113, xkt_114, xkt_119, xkt_126, xkt_159, xkt_576, xkt_999, xkt_9999, xkt_65536, xkt_999999, xkt_m1, xkt_m2, xkt_m3, xkt_m4, xkt_m11, xkt_m12, xkt_m13, xkt_m14, xkt_m20, xjt_0, xjt_1, xjt_2, xjt_3, xjt_4, xjt_5, xjt_6, xjt_7, xjt_8, xjt_9, xjt_10, xjt_11, xjt_12, xjt_13, xjt_14, xjt_16, xjt_20, xjt_24, xjt_31, xjt_32, xjt_40, xjt_44, xjt_47, xjt_48, xjt_57, xjt_59, xjt_60, xjt_63, xjt_64, xjt_65, xjt_72, xjt_95, xjt_99, xjt_100, xjt_101, xjt_103, xjt_110, xjt_112, xjt_113, xjt_114, xjt_119, xjt_126, xjt_159, xjt_576, xjt_999, xjt_9999, xjt_65536, xjt_999999, xt64, xt_n, not_true_eq_false, not_false_eq_true, Classical.not_not] at c_8 c_18 c_31
        all_goals omega

theorem c_film3 {d : Nat} {b : Bool} {I : Nat → Nat → Int32} {L : Nat → Nat → Int64} {N : Nat → Nat} {u : Nat} {U : Nat → Nat → Nat} (hP : xPL N u U 1 I) (hK : xUK N u U) {Y : xY} (hS : xSH Y I L) (hY : xYK Y) {c n : Nat} (hc : c < N 0 * N 1) (hn : 1 ≤ n ∧ n ≤ 24) (hcn : c + n ≤ N 0 * N 1) {s : Nat} (hs : s < 4) {la : Nat} (bl : la < 4) {j : Nat} (bj : j < 2 ^ 31) (hw : xwy (Y s) la (nI j) (nI n) = 0) {p : Int32} (e_p : p = nI c) {q : Int32} (e_q : q = nI n) {x : Int32} (e_x : x = nI s) {y : Int32} (e_y : y = nI la) {z : Int32} (e_z : z = nI j) : xm_Z (d + 4) 97 [.ref 0, .int p, .int q, .int x, .int y, .int z] (xS b, I, L, xP b) (fun rz hz => xHC b I L (nI n) (va_up Y s (true, (Y s).2.1, (Y s).2.2.1, va_cpy (fun k => xct la (nI (N (95 + (c + k)))).toInt64) (Y s).2.2.2 0 j n)) rz hz) := by
  subst e_p
  subst e_q
  subst e_x
  subst e_y
  subst e_z
  have hO := hK.1
  have hb := hK.1.1
  have c64 : N 0 * N 1 ≤ 64 := xce_le hO
  have c4 : 4 ≤ N 0 * N 1 := xce_ge hO
  obtain ⟨⟨hN0, hN1, hN2, hN3, hN4, hN5, hN6, hN7, hN8, hN9, hN10⟩, hNs, hNw, hNp⟩ := hP.1
  have s2 : (xS b)[52 + 2 * s]? = some (10, 4) := xS_52 hs
  have s3 : (xS b)[53 + 2 * s]? = some (1, 24) := xS_53 hs
  obtain ⟨y0, y1, y2, y3⟩ := hS s hs
  have hk := hY s hs
  obtain ⟨w1, w2, w3, w4, w5⟩ := xwy_0 hw
  have hj : j + n ≤ (Y s).2.2.1 := by rw [xt_n bj, xt_n (by omega)] at w5; omega
  refine xw_S xb_97 (l := [.ref 0, .int (nI c), .int (nI n), .int (nI s), .int (nI la), .int (nI j), .float 0, .float 0]) (Nat.le_of_ble_eq_true rfl) rfl ?_
  refine xw_go xb_97 3 (f1 := (5, [.ref 0, .int (nI c), .int (nI n), .int (nI s), .int (nI la), .int (nI j), .float 0, .float 0], [.int (nI c), .ref 1])) (h1 := (xS b, I, L, xP b)) rfl ⟨rfl, trivial⟩ ?_
  refine xw_call xb_97 rfl rfl rfl rfl rfl (Or.inr ⟨_, _, rfl, rfl⟩) (c_hasCell (I := I) hN0 hN1 (by omega) (by omega) (by omega)) ?_
  rintro _ _ ⟨rfl, rfl⟩
  refine xw_at (f' := (8, [.ref 0, .int (nI c), .int (nI n), .int (nI s), .int (nI la), .int (nI j), .float 0, .float 0], [.int (nI (xB (decide (0 ≤ (nI c).toInt ∧ (nI c).toInt < ((N 0 * N 1 : Nat) : Int)))))])) (h' := (xS b, I, L, xP b)) rfl rfl ?_
  refine xw_go xb_97 1 (f1 := (if (nI (xB (decide (0 ≤ (nI c).toInt ∧ (nI c).toInt < ((N 0 * N 1 : Nat) : Int))))) = 0 then 34 else 11, [.ref 0, .int (nI c), .int (nI n), .int (nI s), .int (nI la), .int (nI j), .float 0, .float 0], [])) (h1 := (xS b, I, L, xP b)) rfl trivial ?_
  refine xw_if (fun c_8 => ?_) (fun c_8 => ?_)
  · skip
    exfalso
    try simp only [xB_dec, Classical.not_not] at c_8
    try simp (disch := omega) only [xn_sub, xt_eq, xt_lt, xt_le, xkt_0, xkt_1, xkt_2, xkt_3, xkt_4, xkt_5, xkt_6, xkt_7, xkt_8, xkt_9, xkt_10, xkt_11, xkt_12, xkt_13, xkt_14, xkt_16, xkt_20, xkt_24, xkt_31, xkt_32, xkt_40, xkt_44, xkt_47, xkt_48, xkt_57, xkt_59, xkt_60, xkt_63, xkt_64, xkt_65, xkt_72, xkt_95, xkt_99, xkt_100, xkt_101, xkt_103, xkt_110, xkt_112, xkt_113, xkt_114, xkt_119, xkt_126, xkt_159, xkt_576, xkt_999, xkt_9999, xkt_65536, xkt_999999, xkt_m1, xkt_m2, xkt_m3, xkt_m4, xkt_m11, xkt_m12, xkt_m13, xkt_m14, xkt_m20, xjt_0, xjt_1, xjt_2, xjt_3, xjt_4, xjt_5, xjt_6, xjt_7, xjt_8, xjt_9, xjt_10, xjt_11, xjt_12, xjt_13, xjt_14, xjt_16, xjt_20, xjt_24, xjt_31, xjt_32, xjt_40, xjt_44, xjt_47, xjt_48, xjt_57, xjt_59, xjt_60, xjt_63, xjt_64, xjt_65, xjt_72, xjt_95, xjt_99, xjt_100, xjt_101, xjt_103, xjt_110, xjt_112, xjt_113, xjt_114, xjt_119, xjt_126, xjt_159, xjt_576, xjt_999, xjt_9999, xjt_65536, xjt_999999, xt64, xt_n, not_true_eq_false, not_false_eq_true, Classical.not_not] at c_8
    all_goals omega
  · skip
    refine xw_go xb_97 3 (f1 := (15, [.ref 0, .int (nI c), .int (nI n), .int (nI s), .int (nI la), .int (nI j), .float 0, .float 0], [.int 24, .int 1, .int (nI n)])) (h1 := (xS b, I, L, xP b)) rfl trivial ?_
    refine xw_call xb_97 rfl rfl rfl rfl rfl (Or.inl rfl) c_within ?_
    rintro _ _ ⟨rfl, rfl⟩
    refine xw_at (f' := (18, [.ref 0, .int (nI c), .int (nI n), .int (nI s), .int (nI la), .int (nI j), .float 0, .float 0], [.int (nI (xB (decide ((1 : Int32).toInt ≤ (nI n).toInt ∧ (nI n).toInt ≤ (24 : Int32).toInt))))])) (h' := (xS b, I, L, xP b)) rfl rfl ?_
    refine xw_go xb_97 1 (f1 := (if (nI (xB (decide ((1 : Int32).toInt ≤ (nI n).toInt ∧ (nI n).toInt ≤ (24 : Int32).toInt)))) = 0 then 34 else 21, [.ref 0, .int (nI c), .int (nI n), .int (nI s), .int (nI la), .int (nI j), .float 0, .float 0], [])) (h1 := (xS b, I, L, xP b)) rfl trivial ?_
    refine xw_if (fun c_18 => ?_) (fun c_18 => ?_)
    · skip
      exfalso
      try simp only [xB_dec, Classical.not_not] at c_8 c_18
      try simp (disch := omega) only [xn_sub, xt_eq, xt_lt, xt_le, xkt_0, xkt_1, xkt_2, xkt_3, xkt_4, xkt_5, xkt_6, xkt_7, xkt_8, xkt_9, xkt_10, xkt_11, xkt_12, xkt_13, xkt_14, xkt_16, xkt_20, xkt_24, xkt_31, xkt_32, xkt_40, xkt_44, xkt_47, xkt_48, xkt_57, xkt_59, xkt_60, xkt_63, xkt_64, xkt_65, xkt_72, xkt_95, xkt_99, xkt_100, xkt_101, xkt_103, xkt_110, xkt_112, xkt_113, xkt_114, xkt_119, xkt_126, xkt_159, xkt_576, xkt_999, xkt_9999, xkt_65536, xkt_999999, xkt_m1, xkt_m2, xkt_m3, xkt_m4, xkt_m11, xkt_m12, xkt_m13, xkt_m14, xkt_m20, xjt_0, xjt_1, xjt_2, xjt_3, xjt_4, xjt_5, xjt_6, xjt_7, xjt_8, xjt_9, xjt_10, xjt_11, xjt_12, xjt_13, xjt_14, xjt_16, xjt_20, xjt_24, xjt_31, xjt_32, xjt_40, xjt_44, xjt_47, xjt_48, xjt_57, xjt_59, xjt_60, xjt_63, xjt_64, xjt_65, xjt_72, xjt_95, xjt_99, xjt_100, xjt_101, xjt_103, xjt_110, xjt_112, xjt_113, xjt_114, xjt_119, xjt_126, xjt_159, xjt_576, xjt_999, xjt_9999, xjt_65536, xjt_999999, xt64, xt_n, not_true_eq_false, not_false_eq_true, Classical.not_not] at c_8 c_18
      all_goals omega
    · skip
      refine xw_go xb_97 3 (f1 := (26, [.ref 0, .int (nI c), .int (nI n), .int (nI s), .int (nI la), .int (nI j), .float 0, .float 0], [.ref 1, .int (nI c)])) (h1 := (xS b, I, L, xP b)) rfl ⟨rfl, trivial⟩ ?_
      refine xw_call xb_97 rfl rfl rfl rfl rfl (Or.inr ⟨_, _, rfl, rfl⟩) (c_cells (I := I) hN0 hN1) ?_
      rintro _ _ ⟨rfl, rfl⟩
      refine xw_at (f' := (29, [.ref 0, .int (nI c), .int (nI n), .int (nI s), .int (nI la), .int (nI j), .float 0, .float 0], [.int (nI (N 0 * N 1)), .int (nI c)])) (h' := (xS b, I, L, xP b)) rfl rfl ?_
      refine xw_go xb_97 3 (f1 := (if (nI c) ≤ ((nI (N 0 * N 1)) - (nI n)) then 36 else 34, [.ref 0, .int (nI c), .int (nI n), .int (nI s), .int (nI la), .int (nI j), .float 0, .float 0], [])) (h1 := (xS b, I, L, xP b)) rfl trivial ?_
      refine xw_if (fun c_31 => ?_) (fun c_31 => ?_)
      · skip
        refine xw_go xb_97 5 (f1 := (43, [.ref 0, .int (nI c), .int (nI n), .int (nI s), .int (nI la), .int (nI j), .float 0, .float 0], [.int (nI n), .int (nI j), .int (nI la), .int (nI s), .ref 0])) (h1 := (xS b, I, L, xP b)) rfl trivial ?_
        refine xw_call xb_97 rfl rfl rfl rfl rfl (Or.inr ⟨_, _, rfl, rfl⟩) (c_refusal1 hS hY hs bl rfl rfl) ?_
        rintro _ _ ⟨rfl, rfl⟩
        refine xw_at (f' := (46, [.ref 0, .int (nI c), .int (nI n), .int (nI s), .int (nI la), .int (nI j), .float 0, .float 0], [.int (xwy (Y s) la (nI j) (nI n))])) (h' := (xS b, I, L, xP b)) rfl rfl ?_
        refine xw_go xb_97 3 (f1 := (if (xwy (Y s) la (nI j) (nI n)) = 0 then 56 else 53, [.ref 0, .int (nI c), .int (nI n), .int (nI s), .int (nI la), .int (nI j), .int (xwy (Y s) la (nI j) (nI n)), .float 0], [])) (h1 := (xS b, I, L, xP b)) rfl trivial ?_
        refine xw_if (fun c_50 => ?_) (fun c_50 => ?_)
        · skip
          refine xw_go xb_97 2 (f1 := (59, [.ref 0, .int (nI c), .int (nI n), .int (nI s), .int (nI la), .int (nI j), .int (xwy (Y s) la (nI j) (nI n)), .int 0], [])) (h1 := (xS b, I, L, xP b)) rfl trivial ?_
          refine xw_at (f' := (59, [.ref 0, .int (nI c), .int (nI n), .int (nI s), .int (nI la), .int (nI j), .int (xwy (Y s) la (nI j) (nI n)), .int (nI 0)], [])) (h' := (xS b, I, va_up L (53 + 2 * s) (va_cpy (fun k => xct la (nI (N (95 + (c + k)))).toInt64) (L (53 + 2 * s)) 0 j 0), xP b)) rfl (by rw [xcy_0, xm_up_id]) ?_
          refine xw_loop n (fun k => (59, [.ref 0, .int (nI c), .int (nI n), .int (nI s), .int (nI la), .int (nI j), .int (xwy (Y s) la (nI j) (nI n)), .int (nI k)], [])) (fun k => (xS b, I, va_up L (53 + 2 * s) (va_cpy (fun k => xct la (nI (N (95 + (c + k)))).toInt64) (L (53 + 2 * s)) 0 j k), xP b)) (fun k hkn ih => ?_) ?_ 0 (Nat.zero_le _)
          · skip
            refine xw_go xb_97 3 (f1 := (if (nI n) ≤ (nI k) then 98 else 65, [.ref 0, .int (nI c), .int (nI n), .int (nI s), .int (nI la), .int (nI j), .int (xwy (Y s) la (nI j) (nI n)), .int (nI k)], [])) (h1 := (xS b, I, va_up L (53 + 2 * s) (va_cpy (fun k => xct la (nI (N (95 + (c + k)))).toInt64) (L (53 + 2 * s)) 0 j k), xP b)) rfl trivial ?_
            refine xw_if (fun c_62 => ?_) (fun c_62 => ?_)
            · skip
              exfalso
              try simp only [xB_dec, Classical.not_not] at c_62
              try simp (disch := omega) only [xn_sub, xt_eq, xt_lt, xt_le, xkt_0, xkt_1, xkt_2, xkt_3, xkt_4, xkt_5, xkt_6, xkt_7, xkt_8, xkt_9, xkt_10, xkt_11, xkt_12, xkt_13, xkt_14, xkt_16, xkt_20, xkt_24, xkt_31, xkt_32, xkt_40, xkt_44, xkt_47, xkt_48, xkt_57, xkt_59, xkt_60, xkt_63, xkt_64, xkt_65, xkt_72, xkt_95, xkt_99, xkt_100, xkt_101, xkt_103, xkt_110, xkt_112, xkt_113, xkt_114, xkt_119, xkt_126, xkt_159, xkt_576, xkt_999, xkt_9999, xkt_65536, xkt_999999, xkt_m1, xkt_m2, xkt_m3, xkt_m4, xkt_m11, xkt_m12, xkt_m13, xkt_m14, xkt_m20, xjt_0, xjt_1, xjt_2, xjt_3, xjt_4, xjt_5, xjt_6, xjt_7, xjt_8, xjt_9, xjt_10, xjt_11, xjt_12, xjt_13, xjt_14, xjt_16, xjt_20, xjt_24, xjt_31, xjt_32, xjt_40, xjt_44, xjt_47, xjt_48, xjt_57, xjt_59, xjt_60, xjt_63, xjt_64, xjt_65, xjt_72, xjt_95, xjt_99, xjt_100, xjt_101, xjt_103, xjt_110, xjt_112, xjt_113, xjt_114, xjt_119, xjt_126, xjt_159, xjt_576, xjt_999, xjt_9999, xjt_65536, xjt_999999, xt64, xt_n, not_true_eq_false, not_false_eq_true, Classical.not_not] at c_62
              all_goals omega
            · skip
              refine xw_go xb_97 4 (f1 := (71, [.ref 0, .int (nI c), .int (nI n), .int (nI s), .int (nI la), .int (nI j), .int (xwy (Y s) la (nI j) (nI n)), .int (nI k)], [xm_o (xP b 51 (nI s).toNatClampNeg)])) (h1 := (xS b, I, va_up L (53 + 2 * s) (va_cpy (fun k => xct la (nI (N (95 + (c + k)))).toInt64) (L (53 + 2 * s)) 0 j k), xP b)) rfl ⟨rfl, (xn_ar (n := s) (N := 4) rfl (by omega) (by decide)), ⟨Nat.le_of_ble_eq_true rfl, Nat.le_of_ble_eq_true rfl⟩, trivial⟩ ?_
              refine xw_cong (l' := [.ref 0, .int (nI c), .int (nI n), .int (nI s), .int (nI la), .int (nI j), .int (xwy (Y s) la (nI j) (nI n)), .int (nI k)]) (st' := [.ref (52 + 2 * s)]) (h' := (xS b, I, va_up L (53 + 2 * s) (va_cpy (fun k => xct la (nI (N (95 + (c + k)))).toInt64) (L (53 + 2 * s)) 0 j k), xP b)) rfl (show ([xm_o (xP b 51 (nI s).toNatClampNeg)] : List Value) = [.ref (52 + 2 * s)] from ?_) rfl ?_
              · rw [xn_cl (by omega), xP_51 hs]
                rfl
              refine xw_go xb_97 11 (f1 := (89, [.ref 0, .int (nI c), .int (nI n), .int (nI s), .int (nI la), .int (nI j), .int (xwy (Y s) la (nI j) (nI n)), .int (nI k)], [.long ((I 3 ((nI c) + (nI k)).toNatClampNeg).toInt64), .int ((nI j) + (nI k)), .ref (52 + 2 * s)])) (h1 := (xS b, I, va_up L (53 + 2 * s) (va_cpy (fun k => xct la (nI (N (95 + (c + k)))).toInt64) (L (53 + 2 * s)) 0 j k), xP b)) rfl ⟨rfl, rfl, (xn_ar' (n := c + k) (N := 64) rfl (nI_add _ _) (by omega) (by decide)), trivial⟩ ?_
              refine xw_cong (l' := [.ref 0, .int (nI c), .int (nI n), .int (nI s), .int (nI la), .int (nI j), .int (xwy (Y s) la (nI j) (nI n)), .int (nI k)]) (st' := [.long ((nI (N (95 + (c + k)))).toInt64), .int ((nI j) + (nI k)), .ref (52 + 2 * s)]) (h' := (xS b, I, va_up L (53 + 2 * s) (va_cpy (fun k => xct la (nI (N (95 + (c + k)))).toInt64) (L (53 + 2 * s)) 0 j k), xP b)) rfl (show ([.long ((I 3 ((nI c) + (nI k)).toNatClampNeg).toInt64), .int ((nI j) + (nI k)), .ref (52 + 2 * s)] : List Value) = [.long ((nI (N (95 + (c + k)))).toInt64), .int ((nI j) + (nI k)), .ref (52 + 2 * s)] from ?_) rfl ?_
              · rw [nI_add, xn_cl (by omega), hNw _ (by omega)]
              refine xw_cong (l' := [.ref 0, .int (nI c), .int (nI n), .int (nI s), .int (nI la), .int (nI j), .int (xwy (Y s) la (nI j) (nI n)), .int (nI k)]) (st' := [.long ((nI (N (95 + (c + k)))).toInt64), .int (nI (j + k)), .ref (52 + 2 * s)]) (h' := (xS b, I, va_up L (53 + 2 * s) (va_cpy (fun k => xct la (nI (N (95 + (c + k)))).toInt64) (L (53 + 2 * s)) 0 j k), xP b)) rfl (show ([.long ((nI (N (95 + (c + k)))).toInt64), .int ((nI j) + (nI k)), .ref (52 + 2 * s)] : List Value) = [.long ((nI (N (95 + (c + k)))).toInt64), .int (nI (j + k)), .ref (52 + 2 * s)] from ?_) rfl ?_
              · rw [nI_add]
              refine xw_call xb_97 rfl rfl rfl rfl rfl (Or.inr ⟨_, _, rfl, s2⟩) (c_put (I := I) (j := j + k) hs (y1.trans (congrArg nI w2)) bl y2 hk.2 (by omega) rfl) ?_
              rintro _ _ ⟨rfl, rfl⟩
              refine xw_at (f' := (92, [.ref 0, .int (nI c), .int (nI n), .int (nI s), .int (nI la), .int (nI j), .int (xwy (Y s) la (nI j) (nI n)), .int (nI k)], [])) (h' := (xS b, I, xm_up (va_up L (53 + 2 * s) (va_cpy (fun k => xct la (nI (N (95 + (c + k)))).toInt64) (L (53 + 2 * s)) 0 j k)) (53 + 2 * s) (j + k) (xct la (nI (N (95 + (c + k)))).toInt64), xP b)) rfl rfl ?_
              refine xw_go xb_97 2 (f1 := (59, [.ref 0, .int (nI c), .int (nI n), .int (nI s), .int (nI la), .int (nI j), .int (xwy (Y s) la (nI j) (nI n)), .int ((nI k) + 1)], [])) (h1 := (xS b, I, xm_up (va_up L (53 + 2 * s) (va_cpy (fun k => xct la (nI (N (95 + (c + k)))).toInt64) (L (53 + 2 * s)) 0 j k)) (53 + 2 * s) (j + k) (xct la (nI (N (95 + (c + k)))).toInt64), xP b)) rfl trivial ?_
              refine xw_cong ?_ rfl ?_ ih
              · rw [nI_1]
              · refine congrArg (fun X => (xS b, I, X, xP b)) ?_
                exact xcy_up rfl (by rw [Nat.zero_add])
          · skip
            refine xw_go xb_97 3 (f1 := (if (nI n) ≤ (nI n) then 98 else 65, [.ref 0, .int (nI c), .int (nI n), .int (nI s), .int (nI la), .int (nI j), .int (xwy (Y s) la (nI j) (nI n)), .int (nI n)], [])) (h1 := (xS b, I, va_up L (53 + 2 * s) (va_cpy (fun k => xct la (nI (N (95 + (c + k)))).toInt64) (L (53 + 2 * s)) 0 j n), xP b)) rfl trivial ?_
            refine xw_if (fun c_62 => ?_) (fun c_62 => ?_)
            · skip
              refine xw_go xb_97 1 (f1 := (99, [.ref 0, .int (nI c), .int (nI n), .int (nI s), .int (nI la), .int (nI j), .int (xwy (Y s) la (nI j) (nI n)), .int (nI n)], [.int (nI n)])) (h1 := (xS b, I, va_up L (53 + 2 * s) (va_cpy (fun k => xct la (nI (N (95 + (c + k)))).toInt64) (L (53 + 2 * s)) 0 j n), xP b)) rfl trivial ?_
              refine xw_ret xb_97 rfl rfl trivial ?_
              refine ⟨rfl, _, _, rfl, ?_, ?_⟩
              · refine xSH_L hS hs w1 fun k hk => ?_
                unfold va_cpy
                by_cases e : j ≤ k ∧ k < j + n
                · rw [if_pos e, if_pos e]
                · rw [if_neg e, if_neg e]
                  exact y3 k hk
              · intro a ha
                rw [xm_vu_o (by omega)]
                exact ⟨rfl, rfl⟩
            · skip
              exfalso
              try simp only [xB_dec, Classical.not_not] at c_62
              try simp (disch := omega) only [xn_sub, xt_eq, xt_lt, xt_le, xkt_0, xkt_1, xkt_2, xkt_3, xkt_4, xkt_5, xkt_6, xkt_7, xkt_8, xkt_9, xkt_10, xkt_11, xkt_12, xkt_13, xkt_14, xkt_16, xkt_20, xkt_24, xkt_31, xkt_32, xkt_40, xkt_44, xkt_47, xkt_48, xkt_57, xkt_59, xkt_60, xkt_63, xkt_64, xkt_65, xkt_72, xkt_95, xkt_99, xkt_100, xkt_101, xkt_103, xkt_110, xkt_112, xkt_113, xkt_114, xkt_119, xkt_126, xkt_159, xkt_576, xkt_999, xkt_9999, xkt_65536, xkt_999999, xkt_m1, xkt_m2, xkt_m3, xkt_m4, xkt_m11, xkt_m12, xkt_m13, xkt_m14, xkt_m20, xjt_0, xjt_1, xjt_2, xjt_3, xjt_4, xjt_5, xjt_6, xjt_7, xjt_8, xjt_9, xjt_10, xjt_11, xjt_12, xjt_13, xjt_14, xjt_16, xjt_20, xjt_24, xjt_31, xjt_32, xjt_40, xjt_44, xjt_47, xjt_48, xjt_57, xjt_59, xjt_60, xjt_63, xjt_64, xjt_65, xjt_72, xjt_95, xjt_99, xjt_100, xjt_101, xjt_103, xjt_110, xjt_112, xjt_113, xjt_114, xjt_119, xjt_126, xjt_159, xjt_576, xjt_999, xjt_9999, xjt_65536, xjt_999999, xt64, xt_n, not_true_eq_false, not_false_eq_true, Classical.not_not] at c_62
              all_goals omega
        · skip
          exact absurd hw c_50
      · skip
        exfalso
        try simp only [xB_dec, Classical.not_not] at c_8 c_18 c_31
        try simp (disch := omega) only [xn_sub, xt_eq, xt_lt, xt_le, xkt_0, xkt_1, xkt_2, xkt_3, xkt_4, xkt_5, xkt_6, xkt_7, xkt_8, xkt_9, xkt_10, xkt_11, xkt_12, xkt_13, xkt_14, xkt_16, xkt_20, xkt_24, xkt_31, xkt_32, xkt_40, xkt_44, xkt_47, xkt_48, xkt_57, xkt_59, xkt_60, xkt_63, xkt_64, xkt_65, xkt_72, xkt_95, xkt_99, xkt_100, xkt_101, xkt_103, xkt_110, xkt_112, xkt_113, xkt_114, xkt_119, xkt_126, xkt_159, xkt_576, xkt_999, xkt_9999, xkt_65536, xkt_999999, xkt_m1, xkt_m2, xkt_m3, xkt_m4, xkt_m11, xkt_m12, xkt_m13, xkt_m14, xkt_m20, xjt_0, xjt_1, xjt_2, xjt_3, xjt_4, xjt_5, xjt_6, xjt_7, xjt_8, xjt_9, xjt_10, xjt_11, xjt_12, xjt_13, xjt_14, xjt_16, xjt_20, xjt_24, xjt_31, xjt_32, xjt_40, xjt_44, xjt_47, xjt_48, xjt_57, xjt_59, xjt_60, xjt_63, xjt_64, xjt_65, xjt_72, xjt_95, xjt_99, xjt_100, xjt_101, xjt_103, xjt_110, xjt_112, xjt_113, xjt_114, xjt_119, xjt_126, xjt_159, xjt_576, xjt_999, xjt_9999, xjt_65536, xjt_999999, xt64, xt_n, not_true_eq_false, not_false_eq_true, Classical.not_not] at c_8 c_18 c_31
        all_goals omega

theorem c_copy0 {d : Nat} {b : Bool} {I : Nat → Nat → Int32} {L : Nat → Nat → Int64} {Y : xY} (hS : xSH Y I L) (hY : xYK Y) {x i y j n : Int32} (hx : ¬ (0 ≤ x.toInt ∧ x.toInt ≤ 3 ∧ 0 ≤ y.toInt ∧ y.toInt ≤ 3)) : xm_Z (d + 3) 105 [.ref 0, .int x, .int i, .int y, .int j, .int n] (xS b, I, L, xP b) (fun rz hz => xHC b I L (-1) Y rz hz) := by
  refine xw_S xb_105 (l := [.ref 0, .int x, .int i, .int y, .int j, .int n, .float 0, .float 0]) (Nat.le_of_ble_eq_true rfl) rfl ?_
  refine xw_go xb_105 3 (f1 := (3, [.ref 0, .int x, .int i, .int y, .int j, .int n, .float 0, .float 0], [.int 3, .int 0, .int x])) (h1 := (xS b, I, L, xP b)) rfl trivial ?_
  refine xw_call xb_105 rfl rfl rfl rfl rfl (Or.inl rfl) c_within ?_
  rintro _ _ ⟨rfl, rfl⟩
  refine xw_at (f' := (6, [.ref 0, .int x, .int i, .int y, .int j, .int n, .float 0, .float 0], [.int (nI (xB (decide ((0 : Int32).toInt ≤ x.toInt ∧ x.toInt ≤ (3 : Int32).toInt))))])) (h' := (xS b, I, L, xP b)) rfl rfl ?_
  refine xw_go xb_105 1 (f1 := (if (nI (xB (decide ((0 : Int32).toInt ≤ x.toInt ∧ x.toInt ≤ (3 : Int32).toInt)))) = 0 then 18 else 9, [.ref 0, .int x, .int i, .int y, .int j, .int n, .float 0, .float 0], [])) (h1 := (xS b, I, L, xP b)) rfl trivial ?_
  refine xw_if (fun c_6 => ?_) (fun c_6 => ?_)
  · skip
    refine xw_go xb_105 1 (f1 := (19, [.ref 0, .int x, .int i, .int y, .int j, .int n, .float 0, .float 0], [.int (-1)])) (h1 := (xS b, I, L, xP b)) rfl trivial ?_
    refine xw_ret xb_105 rfl rfl trivial ?_
    exact xHC_s hS
  · skip
    refine xw_go xb_105 3 (f1 := (12, [.ref 0, .int x, .int i, .int y, .int j, .int n, .float 0, .float 0], [.int 3, .int 0, .int y])) (h1 := (xS b, I, L, xP b)) rfl trivial ?_
    refine xw_call xb_105 rfl rfl rfl rfl rfl (Or.inl rfl) c_within ?_
    rintro _ _ ⟨rfl, rfl⟩
    refine xw_at (f' := (15, [.ref 0, .int x, .int i, .int y, .int j, .int n, .float 0, .float 0], [.int (nI (xB (decide ((0 : Int32).toInt ≤ y.toInt ∧ y.toInt ≤ (3 : Int32).toInt))))])) (h' := (xS b, I, L, xP b)) rfl rfl ?_
    refine xw_go xb_105 1 (f1 := (if ¬ (nI (xB (decide ((0 : Int32).toInt ≤ y.toInt ∧ y.toInt ≤ (3 : Int32).toInt)))) = 0 then 20 else 18, [.ref 0, .int x, .int i, .int y, .int j, .int n, .float 0, .float 0], [])) (h1 := (xS b, I, L, xP b)) rfl trivial ?_
    refine xw_if (fun c_15 => ?_) (fun c_15 => ?_)
    · skip
      exfalso
      try simp only [xB_dec, Classical.not_not] at c_6 c_15
      try simp (disch := omega) only [xt_eq, xt_lt, xt_le, xkt_0, xkt_1, xkt_2, xkt_3, xkt_4, xkt_5, xkt_6, xkt_7, xkt_8, xkt_9, xkt_10, xkt_11, xkt_12, xkt_13, xkt_14, xkt_16, xkt_20, xkt_24, xkt_31, xkt_32, xkt_40, xkt_44, xkt_47, xkt_48, xkt_57, xkt_59, xkt_60, xkt_63, xkt_64, xkt_65, xkt_72, xkt_95, xkt_99, xkt_100, xkt_101, xkt_103, xkt_110, xkt_112, xkt_113, xkt_114, xkt_119, xkt_126, xkt_159, xkt_576, xkt_999, xkt_9999, xkt_65536, xkt_999999, xkt_m1, xkt_m2, xkt_m3, xkt_m4, xkt_m11, xkt_m12, xkt_m13, xkt_m14, xkt_m20, xjt_0, xjt_1, xjt_2, xjt_3, xjt_4, xjt_5, xjt_6, xjt_7, xjt_8, xjt_9, xjt_10, xjt_11, xjt_12, xjt_13, xjt_14, xjt_16, xjt_20, xjt_24, xjt_31, xjt_32, xjt_40, xjt_44, xjt_47, xjt_48, xjt_57, xjt_59, xjt_60, xjt_63, xjt_64, xjt_65, xjt_72, xjt_95, xjt_99, xjt_100, xjt_101, xjt_103, xjt_110, xjt_112, xjt_113, xjt_114, xjt_119, xjt_126, xjt_159, xjt_576, xjt_999, xjt_9999, xjt_65536, xjt_999999, xt64, xt_n, not_true_eq_false, not_false_eq_true, Classical.not_not] at c_6 c_15
      all_goals omega
    · skip
      refine xw_go xb_105 1 (f1 := (19, [.ref 0, .int x, .int i, .int y, .int j, .int n, .float 0, .float 0], [.int (-1)])) (h1 := (xS b, I, L, xP b)) rfl trivial ?_
      refine xw_ret xb_105 rfl rfl trivial ?_
      exact xHC_s hS

theorem c_copy1 {d : Nat} {b : Bool} {I : Nat → Nat → Int32} {L : Nat → Nat → Int64} {Y : xY} (hS : xSH Y I L) (hY : xYK Y) {s t : Nat} (hs : s < 4) (ht : t < 4) {i j n : Int32} (h0 : (Y s).1 = false ∨ (Y t).1 = false) {x : Int32} (e_x : x = nI s) {y : Int32} (e_y : y = nI t) : xm_Z (d + 3) 105 [.ref 0, .int x, .int i, .int y, .int j, .int n] (xS b, I, L, xP b) (fun rz hz => xHC b I L (-11) Y rz hz) := by
  subst e_x
  subst e_y
  have s2 : (xS b)[52 + 2 * s]? = some (10, 4) := xS_52 hs
  have t2 : (xS b)[52 + 2 * t]? = some (10, 4) := xS_52 ht
  have s3 : (xS b)[53 + 2 * s]? = some (1, 24) := xS_53 hs
  have t3 : (xS b)[53 + 2 * t]? = some (1, 24) := xS_53 ht
  obtain ⟨y0, y1, y2, y3⟩ := hS s hs
  obtain ⟨z0, z1, z2, z3⟩ := hS t ht
  have hk := hY s hs
  have hk2 := hY t ht
  refine xw_S xb_105 (l := [.ref 0, .int (nI s), .int i, .int (nI t), .int j, .int n, .float 0, .float 0]) (Nat.le_of_ble_eq_true rfl) rfl ?_
  refine xw_go xb_105 3 (f1 := (3, [.ref 0, .int (nI s), .int i, .int (nI t), .int j, .int n, .float 0, .float 0], [.int 3, .int 0, .int (nI s)])) (h1 := (xS b, I, L, xP b)) rfl trivial ?_
  refine xw_call xb_105 rfl rfl rfl rfl rfl (Or.inl rfl) c_within ?_
  rintro _ _ ⟨rfl, rfl⟩
  refine xw_at (f' := (6, [.ref 0, .int (nI s), .int i, .int (nI t), .int j, .int n, .float 0, .float 0], [.int (nI (xB (decide ((0 : Int32).toInt ≤ (nI s).toInt ∧ (nI s).toInt ≤ (3 : Int32).toInt))))])) (h' := (xS b, I, L, xP b)) rfl rfl ?_
  refine xw_go xb_105 1 (f1 := (if (nI (xB (decide ((0 : Int32).toInt ≤ (nI s).toInt ∧ (nI s).toInt ≤ (3 : Int32).toInt)))) = 0 then 18 else 9, [.ref 0, .int (nI s), .int i, .int (nI t), .int j, .int n, .float 0, .float 0], [])) (h1 := (xS b, I, L, xP b)) rfl trivial ?_
  refine xw_if (fun c_6 => ?_) (fun c_6 => ?_)
  · skip
    exfalso
    try simp only [xB_dec, Classical.not_not] at c_6
    try simp (disch := omega) only [xt_eq, xt_lt, xt_le, xkt_0, xkt_1, xkt_2, xkt_3, xkt_4, xkt_5, xkt_6, xkt_7, xkt_8, xkt_9, xkt_10, xkt_11, xkt_12, xkt_13, xkt_14, xkt_16, xkt_20, xkt_24, xkt_31, xkt_32, xkt_40, xkt_44, xkt_47, xkt_48, xkt_57, xkt_59, xkt_60, xkt_63, xkt_64, xkt_65, xkt_72, xkt_95, xkt_99, xkt_100, xkt_101, xkt_103, xkt_110, xkt_112, xkt_113, xkt_114, xkt_119, xkt_126, xkt_159, xkt_576, xkt_999, xkt_9999, xkt_65536, xkt_999999, xkt_m1, xkt_m2, xkt_m3, xkt_m4, xkt_m11, xkt_m12, xkt_m13, xkt_m14, xkt_m20, xjt_0, xjt_1, xjt_2, xjt_3, xjt_4, xjt_5, xjt_6, xjt_7, xjt_8, xjt_9, xjt_10, xjt_11, xjt_12, xjt_13, xjt_14, xjt_16, xjt_20, xjt_24, xjt_31, xjt_32, xjt_40, xjt_44, xjt_47, xjt_48, xjt_57, xjt_59, xjt_60, xjt_63, xjt_64, xjt_65, xjt_72, xjt_95, xjt_99, xjt_100, xjt_101, xjt_103, xjt_110, xjt_112, xjt_113, xjt_114, xjt_119, xjt_126, xjt_159, xjt_576, xjt_999, xjt_9999, xjt_65536, xjt_999999, xt64, xt_n, not_true_eq_false, not_false_eq_true, Classical.not_not] at c_6
    all_goals omega
  · skip
    refine xw_go xb_105 3 (f1 := (12, [.ref 0, .int (nI s), .int i, .int (nI t), .int j, .int n, .float 0, .float 0], [.int 3, .int 0, .int (nI t)])) (h1 := (xS b, I, L, xP b)) rfl trivial ?_
    refine xw_call xb_105 rfl rfl rfl rfl rfl (Or.inl rfl) c_within ?_
    rintro _ _ ⟨rfl, rfl⟩
    refine xw_at (f' := (15, [.ref 0, .int (nI s), .int i, .int (nI t), .int j, .int n, .float 0, .float 0], [.int (nI (xB (decide ((0 : Int32).toInt ≤ (nI t).toInt ∧ (nI t).toInt ≤ (3 : Int32).toInt))))])) (h' := (xS b, I, L, xP b)) rfl rfl ?_
    refine xw_go xb_105 1 (f1 := (if ¬ (nI (xB (decide ((0 : Int32).toInt ≤ (nI t).toInt ∧ (nI t).toInt ≤ (3 : Int32).toInt)))) = 0 then 20 else 18, [.ref 0, .int (nI s), .int i, .int (nI t), .int j, .int n, .float 0, .float 0], [])) (h1 := (xS b, I, L, xP b)) rfl trivial ?_
    refine xw_if (fun c_15 => ?_) (fun c_15 => ?_)
    · skip
      refine xw_go xb_105 4 (f1 := (26, [.ref 0, .int (nI s), .int i, .int (nI t), .int j, .int n, .float 0, .float 0], [xm_o (xP b 51 (nI s).toNatClampNeg)])) (h1 := (xS b, I, L, xP b)) rfl ⟨rfl, (xn_ar (n := s) (N := 4) rfl (by omega) (by decide)), ⟨Nat.le_of_ble_eq_true rfl, Nat.le_of_ble_eq_true rfl⟩, trivial⟩ ?_
      refine xw_cong (l' := [.ref 0, .int (nI s), .int i, .int (nI t), .int j, .int n, .float 0, .float 0]) (st' := [.ref (52 + 2 * s)]) (h' := (xS b, I, L, xP b)) rfl (show ([xm_o (xP b 51 (nI s).toNatClampNeg)] : List Value) = [.ref (52 + 2 * s)] from ?_) rfl ?_
      · rw [xn_cl (by omega), xP_51 hs]
        rfl
      refine xw_go xb_105 5 (f1 := (34, [.ref 0, .int (nI s), .int i, .int (nI t), .int j, .int n, .ref (52 + 2 * s), .float 0], [xm_o (xP b 51 (nI t).toNatClampNeg)])) (h1 := (xS b, I, L, xP b)) rfl ⟨rfl, (xn_ar (n := t) (N := 4) rfl (by omega) (by decide)), ⟨Nat.le_of_ble_eq_true rfl, Nat.le_of_ble_eq_true rfl⟩, trivial⟩ ?_
      refine xw_cong (l' := [.ref 0, .int (nI s), .int i, .int (nI t), .int j, .int n, .ref (52 + 2 * s), .float 0]) (st' := [.ref (52 + 2 * t)]) (h' := (xS b, I, L, xP b)) rfl (show ([xm_o (xP b 51 (nI t).toNatClampNeg)] : List Value) = [.ref (52 + 2 * t)] from ?_) rfl ?_
      · rw [xn_cl (by omega), xP_51 ht]
        rfl
      refine xw_go xb_105 3 (f1 := (41, [.ref 0, .int (nI s), .int i, .int (nI t), .int j, .int n, .ref (52 + 2 * s), .ref (52 + 2 * t)], [.int (I (52 + 2 * s) 0)])) (h1 := (xS b, I, L, xP b)) rfl ⟨s2, trivial⟩ ?_
      refine xw_cong (l' := [.ref 0, .int (nI s), .int i, .int (nI t), .int j, .int n, .ref (52 + 2 * s), .ref (52 + 2 * t)]) (st' := [.int (nI (xB (Y s).1))]) (h' := (xS b, I, L, xP b)) rfl (show ([.int (I (52 + 2 * s) 0)] : List Value) = [.int (nI (xB (Y s).1))] from ?_) rfl ?_
      · rw [y0]
      refine xw_go xb_105 1 (f1 := (if (nI (xB (Y s).1)) = 0 then 52 else 44, [.ref 0, .int (nI s), .int i, .int (nI t), .int j, .int n, .ref (52 + 2 * s), .ref (52 + 2 * t)], [])) (h1 := (xS b, I, L, xP b)) rfl trivial ?_
      refine xw_if (fun c_41 => ?_) (fun c_41 => ?_)
      · skip
        refine xw_go xb_105 1 (f1 := (54, [.ref 0, .int (nI s), .int i, .int (nI t), .int j, .int n, .ref (52 + 2 * s), .ref (52 + 2 * t)], [.int (-11)])) (h1 := (xS b, I, L, xP b)) rfl trivial ?_
        refine xw_ret xb_105 rfl rfl trivial ?_
        exact xHC_s hS
      · skip
        refine xw_go xb_105 2 (f1 := (49, [.ref 0, .int (nI s), .int i, .int (nI t), .int j, .int n, .ref (52 + 2 * s), .ref (52 + 2 * t)], [.int (I (52 + 2 * t) 0)])) (h1 := (xS b, I, L, xP b)) rfl ⟨t2, trivial⟩ ?_
        refine xw_cong (l' := [.ref 0, .int (nI s), .int i, .int (nI t), .int j, .int n, .ref (52 + 2 * s), .ref (52 + 2 * t)]) (st' := [.int (nI (xB (Y t).1))]) (h' := (xS b, I, L, xP b)) rfl (show ([.int (I (52 + 2 * t) 0)] : List Value) = [.int (nI (xB (Y t).1))] from ?_) rfl ?_
        · rw [z0]
        refine xw_go xb_105 1 (f1 := (if ¬ (nI (xB (Y t).1)) = 0 then 55 else 52, [.ref 0, .int (nI s), .int i, .int (nI t), .int j, .int n, .ref (52 + 2 * s), .ref (52 + 2 * t)], [])) (h1 := (xS b, I, L, xP b)) rfl trivial ?_
        refine xw_if (fun c_49 => ?_) (fun c_49 => ?_)
        · skip
          exfalso
          rw [xB_eq0] at c_41 c_49
          rcases h0 with h0 | h0
          · exact c_41 h0
          · exact c_49 h0
        · skip
          refine xw_go xb_105 1 (f1 := (54, [.ref 0, .int (nI s), .int i, .int (nI t), .int j, .int n, .ref (52 + 2 * s), .ref (52 + 2 * t)], [.int (-11)])) (h1 := (xS b, I, L, xP b)) rfl trivial ?_
          refine xw_ret xb_105 rfl rfl trivial ?_
          exact xHC_s hS
    · skip
      exfalso
      try simp only [xB_dec, Classical.not_not] at c_6 c_15
      try simp (disch := omega) only [xt_eq, xt_lt, xt_le, xkt_0, xkt_1, xkt_2, xkt_3, xkt_4, xkt_5, xkt_6, xkt_7, xkt_8, xkt_9, xkt_10, xkt_11, xkt_12, xkt_13, xkt_14, xkt_16, xkt_20, xkt_24, xkt_31, xkt_32, xkt_40, xkt_44, xkt_47, xkt_48, xkt_57, xkt_59, xkt_60, xkt_63, xkt_64, xkt_65, xkt_72, xkt_95, xkt_99, xkt_100, xkt_101, xkt_103, xkt_110, xkt_112, xkt_113, xkt_114, xkt_119, xkt_126, xkt_159, xkt_576, xkt_999, xkt_9999, xkt_65536, xkt_999999, xkt_m1, xkt_m2, xkt_m3, xkt_m4, xkt_m11, xkt_m12, xkt_m13, xkt_m14, xkt_m20, xjt_0, xjt_1, xjt_2, xjt_3, xjt_4, xjt_5, xjt_6, xjt_7, xjt_8, xjt_9, xjt_10, xjt_11, xjt_12, xjt_13, xjt_14, xjt_16, xjt_20, xjt_24, xjt_31, xjt_32, xjt_40, xjt_44, xjt_47, xjt_48, xjt_57, xjt_59, xjt_60, xjt_63, xjt_64, xjt_65, xjt_72, xjt_95, xjt_99, xjt_100, xjt_101, xjt_103, xjt_110, xjt_112, xjt_113, xjt_114, xjt_119, xjt_126, xjt_159, xjt_576, xjt_999, xjt_9999, xjt_65536, xjt_999999, xt64, xt_n, not_true_eq_false, not_false_eq_true, Classical.not_not] at c_6 c_15
      all_goals omega

theorem c_copy2 {d : Nat} {b : Bool} {I : Nat → Nat → Int32} {L : Nat → Nat → Int64} {Y : xY} (hS : xSH Y I L) (hY : xYK Y) {s t : Nat} (hs : s < 4) (ht : t < 4) (h1 : (Y s).1 = true) (h2 : (Y t).1 = true) {i j n : Int32} (h3 : (Y s).2.1 ≠ (Y t).2.1) {x : Int32} (e_x : x = nI s) {y : Int32} (e_y : y = nI t) : xm_Z (d + 3) 105 [.ref 0, .int x, .int i, .int y, .int j, .int n] (xS b, I, L, xP b) (fun rz hz => xHC b I L (-12) Y rz hz) := by
  subst e_x
  subst e_y
  have s2 : (xS b)[52 + 2 * s]? = some (10, 4) := xS_52 hs
  have t2 : (xS b)[52 + 2 * t]? = some (10, 4) := xS_52 ht
  have s3 : (xS b)[53 + 2 * s]? = some (1, 24) := xS_53 hs
  have t3 : (xS b)[53 + 2 * t]? = some (1, 24) := xS_53 ht
  obtain ⟨y0, y1, y2, y3⟩ := hS s hs
  obtain ⟨z0, z1, z2, z3⟩ := hS t ht
  have hk := hY s hs
  have hk2 := hY t ht
  refine xw_S xb_105 (l := [.ref 0, .int (nI s), .int i, .int (nI t), .int j, .int n, .float 0, .float 0]) (Nat.le_of_ble_eq_true rfl) rfl ?_
  refine xw_go xb_105 3 (f1 := (3, [.ref 0, .int (nI s), .int i, .int (nI t), .int j, .int n, .float 0, .float 0], [.int 3, .int 0, .int (nI s)])) (h1 := (xS b, I, L, xP b)) rfl trivial ?_
  refine xw_call xb_105 rfl rfl rfl rfl rfl (Or.inl rfl) c_within ?_
  rintro _ _ ⟨rfl, rfl⟩
  refine xw_at (f' := (6, [.ref 0, .int (nI s), .int i, .int (nI t), .int j, .int n, .float 0, .float 0], [.int (nI (xB (decide ((0 : Int32).toInt ≤ (nI s).toInt ∧ (nI s).toInt ≤ (3 : Int32).toInt))))])) (h' := (xS b, I, L, xP b)) rfl rfl ?_
  refine xw_go xb_105 1 (f1 := (if (nI (xB (decide ((0 : Int32).toInt ≤ (nI s).toInt ∧ (nI s).toInt ≤ (3 : Int32).toInt)))) = 0 then 18 else 9, [.ref 0, .int (nI s), .int i, .int (nI t), .int j, .int n, .float 0, .float 0], [])) (h1 := (xS b, I, L, xP b)) rfl trivial ?_
  refine xw_if (fun c_6 => ?_) (fun c_6 => ?_)
  · skip
    exfalso
    try simp only [xB_dec, Classical.not_not] at c_6
    try simp (disch := omega) only [xt_eq, xt_lt, xt_le, xkt_0, xkt_1, xkt_2, xkt_3, xkt_4, xkt_5, xkt_6, xkt_7, xkt_8, xkt_9, xkt_10, xkt_11, xkt_12, xkt_13, xkt_14, xkt_16, xkt_20, xkt_24, xkt_31, xkt_32, xkt_40, xkt_44, xkt_47, xkt_48, xkt_57, xkt_59, xkt_60, xkt_63, xkt_64, xkt_65, xkt_72, xkt_95, xkt_99, xkt_100, xkt_101, xkt_103, xkt_110, xkt_112, xkt_113, xkt_114, xkt_119, xkt_126, xkt_159, xkt_576, xkt_999, xkt_9999, xkt_65536, xkt_999999, xkt_m1, xkt_m2, xkt_m3, xkt_m4, xkt_m11, xkt_m12, xkt_m13, xkt_m14, xkt_m20, xjt_0, xjt_1, xjt_2, xjt_3, xjt_4, xjt_5, xjt_6, xjt_7, xjt_8, xjt_9, xjt_10, xjt_11, xjt_12, xjt_13, xjt_14, xjt_16, xjt_20, xjt_24, xjt_31, xjt_32, xjt_40, xjt_44, xjt_47, xjt_48, xjt_57, xjt_59, xjt_60, xjt_63, xjt_64, xjt_65, xjt_72, xjt_95, xjt_99, xjt_100, xjt_101, xjt_103, xjt_110, xjt_112, xjt_113, xjt_114, xjt_119, xjt_126, xjt_159, xjt_576, xjt_999, xjt_9999, xjt_65536, xjt_999999, xt64, xt_n, not_true_eq_false, not_false_eq_true, Classical.not_not] at c_6
    all_goals omega
  · skip
    refine xw_go xb_105 3 (f1 := (12, [.ref 0, .int (nI s), .int i, .int (nI t), .int j, .int n, .float 0, .float 0], [.int 3, .int 0, .int (nI t)])) (h1 := (xS b, I, L, xP b)) rfl trivial ?_
    refine xw_call xb_105 rfl rfl rfl rfl rfl (Or.inl rfl) c_within ?_
    rintro _ _ ⟨rfl, rfl⟩
    refine xw_at (f' := (15, [.ref 0, .int (nI s), .int i, .int (nI t), .int j, .int n, .float 0, .float 0], [.int (nI (xB (decide ((0 : Int32).toInt ≤ (nI t).toInt ∧ (nI t).toInt ≤ (3 : Int32).toInt))))])) (h' := (xS b, I, L, xP b)) rfl rfl ?_
    refine xw_go xb_105 1 (f1 := (if ¬ (nI (xB (decide ((0 : Int32).toInt ≤ (nI t).toInt ∧ (nI t).toInt ≤ (3 : Int32).toInt)))) = 0 then 20 else 18, [.ref 0, .int (nI s), .int i, .int (nI t), .int j, .int n, .float 0, .float 0], [])) (h1 := (xS b, I, L, xP b)) rfl trivial ?_
    refine xw_if (fun c_15 => ?_) (fun c_15 => ?_)
    · skip
      refine xw_go xb_105 4 (f1 := (26, [.ref 0, .int (nI s), .int i, .int (nI t), .int j, .int n, .float 0, .float 0], [xm_o (xP b 51 (nI s).toNatClampNeg)])) (h1 := (xS b, I, L, xP b)) rfl ⟨rfl, (xn_ar (n := s) (N := 4) rfl (by omega) (by decide)), ⟨Nat.le_of_ble_eq_true rfl, Nat.le_of_ble_eq_true rfl⟩, trivial⟩ ?_
      refine xw_cong (l' := [.ref 0, .int (nI s), .int i, .int (nI t), .int j, .int n, .float 0, .float 0]) (st' := [.ref (52 + 2 * s)]) (h' := (xS b, I, L, xP b)) rfl (show ([xm_o (xP b 51 (nI s).toNatClampNeg)] : List Value) = [.ref (52 + 2 * s)] from ?_) rfl ?_
      · rw [xn_cl (by omega), xP_51 hs]
        rfl
      refine xw_go xb_105 5 (f1 := (34, [.ref 0, .int (nI s), .int i, .int (nI t), .int j, .int n, .ref (52 + 2 * s), .float 0], [xm_o (xP b 51 (nI t).toNatClampNeg)])) (h1 := (xS b, I, L, xP b)) rfl ⟨rfl, (xn_ar (n := t) (N := 4) rfl (by omega) (by decide)), ⟨Nat.le_of_ble_eq_true rfl, Nat.le_of_ble_eq_true rfl⟩, trivial⟩ ?_
      refine xw_cong (l' := [.ref 0, .int (nI s), .int i, .int (nI t), .int j, .int n, .ref (52 + 2 * s), .float 0]) (st' := [.ref (52 + 2 * t)]) (h' := (xS b, I, L, xP b)) rfl (show ([xm_o (xP b 51 (nI t).toNatClampNeg)] : List Value) = [.ref (52 + 2 * t)] from ?_) rfl ?_
      · rw [xn_cl (by omega), xP_51 ht]
        rfl
      refine xw_go xb_105 3 (f1 := (41, [.ref 0, .int (nI s), .int i, .int (nI t), .int j, .int n, .ref (52 + 2 * s), .ref (52 + 2 * t)], [.int (I (52 + 2 * s) 0)])) (h1 := (xS b, I, L, xP b)) rfl ⟨s2, trivial⟩ ?_
      refine xw_cong (l' := [.ref 0, .int (nI s), .int i, .int (nI t), .int j, .int n, .ref (52 + 2 * s), .ref (52 + 2 * t)]) (st' := [.int (nI (xB (Y s).1))]) (h' := (xS b, I, L, xP b)) rfl (show ([.int (I (52 + 2 * s) 0)] : List Value) = [.int (nI (xB (Y s).1))] from ?_) rfl ?_
      · rw [y0]
      refine xw_go xb_105 1 (f1 := (if (nI (xB (Y s).1)) = 0 then 52 else 44, [.ref 0, .int (nI s), .int i, .int (nI t), .int j, .int n, .ref (52 + 2 * s), .ref (52 + 2 * t)], [])) (h1 := (xS b, I, L, xP b)) rfl trivial ?_
      refine xw_if (fun c_41 => ?_) (fun c_41 => ?_)
      · skip
        exfalso
        first | (rw [h1] at c_41; exact absurd c_41 (by decide)) | (rw [h2] at c_49; exact c_49 (by decide))
      · skip
        refine xw_go xb_105 2 (f1 := (49, [.ref 0, .int (nI s), .int i, .int (nI t), .int j, .int n, .ref (52 + 2 * s), .ref (52 + 2 * t)], [.int (I (52 + 2 * t) 0)])) (h1 := (xS b, I, L, xP b)) rfl ⟨t2, trivial⟩ ?_
        refine xw_cong (l' := [.ref 0, .int (nI s), .int i, .int (nI t), .int j, .int n, .ref (52 + 2 * s), .ref (52 + 2 * t)]) (st' := [.int (nI (xB (Y t).1))]) (h' := (xS b, I, L, xP b)) rfl (show ([.int (I (52 + 2 * t) 0)] : List Value) = [.int (nI (xB (Y t).1))] from ?_) rfl ?_
        · rw [z0]
        refine xw_go xb_105 1 (f1 := (if ¬ (nI (xB (Y t).1)) = 0 then 55 else 52, [.ref 0, .int (nI s), .int i, .int (nI t), .int j, .int n, .ref (52 + 2 * s), .ref (52 + 2 * t)], [])) (h1 := (xS b, I, L, xP b)) rfl trivial ?_
        refine xw_if (fun c_49 => ?_) (fun c_49 => ?_)
        · skip
          refine xw_go xb_105 4 (f1 := (65, [.ref 0, .int (nI s), .int i, .int (nI t), .int j, .int n, .ref (52 + 2 * s), .ref (52 + 2 * t)], [.int (I (52 + 2 * t) 1), .int (I (52 + 2 * s) 1)])) (h1 := (xS b, I, L, xP b)) rfl ⟨s2, t2, trivial⟩ ?_
          refine xw_cong (l' := [.ref 0, .int (nI s), .int i, .int (nI t), .int j, .int n, .ref (52 + 2 * s), .ref (52 + 2 * t)]) (st' := [.int (nI (Y t).2.1), .int (I (52 + 2 * s) 1)]) (h' := (xS b, I, L, xP b)) rfl (show ([.int (I (52 + 2 * t) 1), .int (I (52 + 2 * s) 1)] : List Value) = [.int (nI (Y t).2.1), .int (I (52 + 2 * s) 1)] from ?_) rfl ?_
          · rw [z1]
          refine xw_cong (l' := [.ref 0, .int (nI s), .int i, .int (nI t), .int j, .int n, .ref (52 + 2 * s), .ref (52 + 2 * t)]) (st' := [.int (nI (Y t).2.1), .int (nI (Y s).2.1)]) (h' := (xS b, I, L, xP b)) rfl (show ([.int (nI (Y t).2.1), .int (I (52 + 2 * s) 1)] : List Value) = [.int (nI (Y t).2.1), .int (nI (Y s).2.1)] from ?_) rfl ?_
          · rw [y1]
          refine xw_go xb_105 1 (f1 := (if (nI (Y s).2.1) = (nI (Y t).2.1) then 71 else 68, [.ref 0, .int (nI s), .int i, .int (nI t), .int j, .int n, .ref (52 + 2 * s), .ref (52 + 2 * t)], [])) (h1 := (xS b, I, L, xP b)) rfl trivial ?_
          refine xw_if (fun c_65 => ?_) (fun c_65 => ?_)
          · skip
            exact absurd ((nI_eq (by omega) (by omega)).mp c_65) h3
          · skip
            refine xw_go xb_105 1 (f1 := (70, [.ref 0, .int (nI s), .int i, .int (nI t), .int j, .int n, .ref (52 + 2 * s), .ref (52 + 2 * t)], [.int (-12)])) (h1 := (xS b, I, L, xP b)) rfl trivial ?_
            refine xw_ret xb_105 rfl rfl trivial ?_
            exact xHC_s hS
        · skip
          exfalso
          first | (rw [h1] at c_41; exact absurd c_41 (by decide)) | (rw [h2] at c_49; exact c_49 (by decide))
    · skip
      exfalso
      try simp only [xB_dec, Classical.not_not] at c_6 c_15
      try simp (disch := omega) only [xt_eq, xt_lt, xt_le, xkt_0, xkt_1, xkt_2, xkt_3, xkt_4, xkt_5, xkt_6, xkt_7, xkt_8, xkt_9, xkt_10, xkt_11, xkt_12, xkt_13, xkt_14, xkt_16, xkt_20, xkt_24, xkt_31, xkt_32, xkt_40, xkt_44, xkt_47, xkt_48, xkt_57, xkt_59, xkt_60, xkt_63, xkt_64, xkt_65, xkt_72, xkt_95, xkt_99, xkt_100, xkt_101, xkt_103, xkt_110, xkt_112, xkt_113, xkt_114, xkt_119, xkt_126, xkt_159, xkt_576, xkt_999, xkt_9999, xkt_65536, xkt_999999, xkt_m1, xkt_m2, xkt_m3, xkt_m4, xkt_m11, xkt_m12, xkt_m13, xkt_m14, xkt_m20, xjt_0, xjt_1, xjt_2, xjt_3, xjt_4, xjt_5, xjt_6, xjt_7, xjt_8, xjt_9, xjt_10, xjt_11, xjt_12, xjt_13, xjt_14, xjt_16, xjt_20, xjt_24, xjt_31, xjt_32, xjt_40, xjt_44, xjt_47, xjt_48, xjt_57, xjt_59, xjt_60, xjt_63, xjt_64, xjt_65, xjt_72, xjt_95, xjt_99, xjt_100, xjt_101, xjt_103, xjt_110, xjt_112, xjt_113, xjt_114, xjt_119, xjt_126, xjt_159, xjt_576, xjt_999, xjt_9999, xjt_65536, xjt_999999, xt64, xt_n, not_true_eq_false, not_false_eq_true, Classical.not_not] at c_6 c_15
      all_goals omega

theorem c_copy3 {d : Nat} {b : Bool} {I : Nat → Nat → Int32} {L : Nat → Nat → Int64} {Y : xY} (hS : xSH Y I L) (hY : xYK Y) {s t : Nat} (hs : s < 4) (ht : t < 4) (h1 : (Y s).1 = true) (h2 : (Y t).1 = true) (h3 : (Y s).2.1 = (Y t).2.1) {i j n : Int32} (h4 : ¬ (0 ≤ n.toInt ∧ 0 ≤ i.toInt ∧ i.toInt + n.toInt ≤ ((Y s).2.2.1 : Int) ∧ 0 ≤ j.toInt ∧ j.toInt + n.toInt ≤ ((Y t).2.2.1 : Int))) {x : Int32} (e_x : x = nI s) {y : Int32} (e_y : y = nI t) : xm_Z (d + 3) 105 [.ref 0, .int x, .int i, .int y, .int j, .int n] (xS b, I, L, xP b) (fun rz hz => xHC b I L (-13) Y rz hz) := by
  subst e_x
  subst e_y
  have s2 : (xS b)[52 + 2 * s]? = some (10, 4) := xS_52 hs
  have t2 : (xS b)[52 + 2 * t]? = some (10, 4) := xS_52 ht
  have s3 : (xS b)[53 + 2 * s]? = some (1, 24) := xS_53 hs
  have t3 : (xS b)[53 + 2 * t]? = some (1, 24) := xS_53 ht
  obtain ⟨y0, y1, y2, y3⟩ := hS s hs
  obtain ⟨z0, z1, z2, z3⟩ := hS t ht
  have hk := hY s hs
  have hk2 := hY t ht
  refine xw_S xb_105 (l := [.ref 0, .int (nI s), .int i, .int (nI t), .int j, .int n, .float 0, .float 0]) (Nat.le_of_ble_eq_true rfl) rfl ?_
  refine xw_go xb_105 3 (f1 := (3, [.ref 0, .int (nI s), .int i, .int (nI t), .int j, .int n, .float 0, .float 0], [.int 3, .int 0, .int (nI s)])) (h1 := (xS b, I, L, xP b)) rfl trivial ?_
  refine xw_call xb_105 rfl rfl rfl rfl rfl (Or.inl rfl) c_within ?_
  rintro _ _ ⟨rfl, rfl⟩
  refine xw_at (f' := (6, [.ref 0, .int (nI s), .int i, .int (nI t), .int j, .int n, .float 0, .float 0], [.int (nI (xB (decide ((0 : Int32).toInt ≤ (nI s).toInt ∧ (nI s).toInt ≤ (3 : Int32).toInt))))])) (h' := (xS b, I, L, xP b)) rfl rfl ?_
  refine xw_go xb_105 1 (f1 := (if (nI (xB (decide ((0 : Int32).toInt ≤ (nI s).toInt ∧ (nI s).toInt ≤ (3 : Int32).toInt)))) = 0 then 18 else 9, [.ref 0, .int (nI s), .int i, .int (nI t), .int j, .int n, .float 0, .float 0], [])) (h1 := (xS b, I, L, xP b)) rfl trivial ?_
  refine xw_if (fun c_6 => ?_) (fun c_6 => ?_)
  · skip
    exfalso
    try simp only [xB_dec, Classical.not_not] at c_6
    try simp (disch := omega) only [xt_eq, xt_lt, xt_le, xkt_0, xkt_1, xkt_2, xkt_3, xkt_4, xkt_5, xkt_6, xkt_7, xkt_8, xkt_9, xkt_10, xkt_11, xkt_12, xkt_13, xkt_14, xkt_16, xkt_20, xkt_24, xkt_31, xkt_32, xkt_40, xkt_44, xkt_47, xkt_48, xkt_57, xkt_59, xkt_60, xkt_63, xkt_64, xkt_65, xkt_72, xkt_95, xkt_99, xkt_100, xkt_101, xkt_103, xkt_110, xkt_112, xkt_113, xkt_114, xkt_119, xkt_126, xkt_159, xkt_576, xkt_999, xkt_9999, xkt_65536, xkt_999999, xkt_m1, xkt_m2, xkt_m3, xkt_m4, xkt_m11, xkt_m12, xkt_m13, xkt_m14, xkt_m20, xjt_0, xjt_1, xjt_2, xjt_3, xjt_4, xjt_5, xjt_6, xjt_7, xjt_8, xjt_9, xjt_10, xjt_11, xjt_12, xjt_13, xjt_14, xjt_16, xjt_20, xjt_24, xjt_31, xjt_32, xjt_40, xjt_44, xjt_47, xjt_48, xjt_57, xjt_59, xjt_60, xjt_63, xjt_64, xjt_65, xjt_72, xjt_95, xjt_99, xjt_100, xjt_101, xjt_103, xjt_110, xjt_112, xjt_113, xjt_114, xjt_119, xjt_126, xjt_159, xjt_576, xjt_999, xjt_9999, xjt_65536, xjt_999999, xt64, xt_n, not_true_eq_false, not_false_eq_true, Classical.not_not] at c_6
    all_goals omega
  · skip
    refine xw_go xb_105 3 (f1 := (12, [.ref 0, .int (nI s), .int i, .int (nI t), .int j, .int n, .float 0, .float 0], [.int 3, .int 0, .int (nI t)])) (h1 := (xS b, I, L, xP b)) rfl trivial ?_
    refine xw_call xb_105 rfl rfl rfl rfl rfl (Or.inl rfl) c_within ?_
    rintro _ _ ⟨rfl, rfl⟩
    refine xw_at (f' := (15, [.ref 0, .int (nI s), .int i, .int (nI t), .int j, .int n, .float 0, .float 0], [.int (nI (xB (decide ((0 : Int32).toInt ≤ (nI t).toInt ∧ (nI t).toInt ≤ (3 : Int32).toInt))))])) (h' := (xS b, I, L, xP b)) rfl rfl ?_
    refine xw_go xb_105 1 (f1 := (if ¬ (nI (xB (decide ((0 : Int32).toInt ≤ (nI t).toInt ∧ (nI t).toInt ≤ (3 : Int32).toInt)))) = 0 then 20 else 18, [.ref 0, .int (nI s), .int i, .int (nI t), .int j, .int n, .float 0, .float 0], [])) (h1 := (xS b, I, L, xP b)) rfl trivial ?_
    refine xw_if (fun c_15 => ?_) (fun c_15 => ?_)
    · skip
      refine xw_go xb_105 4 (f1 := (26, [.ref 0, .int (nI s), .int i, .int (nI t), .int j, .int n, .float 0, .float 0], [xm_o (xP b 51 (nI s).toNatClampNeg)])) (h1 := (xS b, I, L, xP b)) rfl ⟨rfl, (xn_ar (n := s) (N := 4) rfl (by omega) (by decide)), ⟨Nat.le_of_ble_eq_true rfl, Nat.le_of_ble_eq_true rfl⟩, trivial⟩ ?_
      refine xw_cong (l' := [.ref 0, .int (nI s), .int i, .int (nI t), .int j, .int n, .float 0, .float 0]) (st' := [.ref (52 + 2 * s)]) (h' := (xS b, I, L, xP b)) rfl (show ([xm_o (xP b 51 (nI s).toNatClampNeg)] : List Value) = [.ref (52 + 2 * s)] from ?_) rfl ?_
      · rw [xn_cl (by omega), xP_51 hs]
        rfl
      refine xw_go xb_105 5 (f1 := (34, [.ref 0, .int (nI s), .int i, .int (nI t), .int j, .int n, .ref (52 + 2 * s), .float 0], [xm_o (xP b 51 (nI t).toNatClampNeg)])) (h1 := (xS b, I, L, xP b)) rfl ⟨rfl, (xn_ar (n := t) (N := 4) rfl (by omega) (by decide)), ⟨Nat.le_of_ble_eq_true rfl, Nat.le_of_ble_eq_true rfl⟩, trivial⟩ ?_
      refine xw_cong (l' := [.ref 0, .int (nI s), .int i, .int (nI t), .int j, .int n, .ref (52 + 2 * s), .float 0]) (st' := [.ref (52 + 2 * t)]) (h' := (xS b, I, L, xP b)) rfl (show ([xm_o (xP b 51 (nI t).toNatClampNeg)] : List Value) = [.ref (52 + 2 * t)] from ?_) rfl ?_
      · rw [xn_cl (by omega), xP_51 ht]
        rfl
      refine xw_go xb_105 3 (f1 := (41, [.ref 0, .int (nI s), .int i, .int (nI t), .int j, .int n, .ref (52 + 2 * s), .ref (52 + 2 * t)], [.int (I (52 + 2 * s) 0)])) (h1 := (xS b, I, L, xP b)) rfl ⟨s2, trivial⟩ ?_
      refine xw_cong (l' := [.ref 0, .int (nI s), .int i, .int (nI t), .int j, .int n, .ref (52 + 2 * s), .ref (52 + 2 * t)]) (st' := [.int (nI (xB (Y s).1))]) (h' := (xS b, I, L, xP b)) rfl (show ([.int (I (52 + 2 * s) 0)] : List Value) = [.int (nI (xB (Y s).1))] from ?_) rfl ?_
      · rw [y0]
      refine xw_go xb_105 1 (f1 := (if (nI (xB (Y s).1)) = 0 then 52 else 44, [.ref 0, .int (nI s), .int i, .int (nI t), .int j, .int n, .ref (52 + 2 * s), .ref (52 + 2 * t)], [])) (h1 := (xS b, I, L, xP b)) rfl trivial ?_
      refine xw_if (fun c_41 => ?_) (fun c_41 => ?_)
      · skip
        exfalso
        first | (rw [h1] at c_41; exact absurd c_41 (by decide)) | (rw [h2] at c_49; exact c_49 (by decide))
      · skip
        refine xw_go xb_105 2 (f1 := (49, [.ref 0, .int (nI s), .int i, .int (nI t), .int j, .int n, .ref (52 + 2 * s), .ref (52 + 2 * t)], [.int (I (52 + 2 * t) 0)])) (h1 := (xS b, I, L, xP b)) rfl ⟨t2, trivial⟩ ?_
        refine xw_cong (l' := [.ref 0, .int (nI s), .int i, .int (nI t), .int j, .int n, .ref (52 + 2 * s), .ref (52 + 2 * t)]) (st' := [.int (nI (xB (Y t).1))]) (h' := (xS b, I, L, xP b)) rfl (show ([.int (I (52 + 2 * t) 0)] : List Value) = [.int (nI (xB (Y t).1))] from ?_) rfl ?_
        · rw [z0]
        refine xw_go xb_105 1 (f1 := (if ¬ (nI (xB (Y t).1)) = 0 then 55 else 52, [.ref 0, .int (nI s), .int i, .int (nI t), .int j, .int n, .ref (52 + 2 * s), .ref (52 + 2 * t)], [])) (h1 := (xS b, I, L, xP b)) rfl trivial ?_
        refine xw_if (fun c_49 => ?_) (fun c_49 => ?_)
        · skip
          refine xw_go xb_105 4 (f1 := (65, [.ref 0, .int (nI s), .int i, .int (nI t), .int j, .int n, .ref (52 + 2 * s), .ref (52 + 2 * t)], [.int (I (52 + 2 * t) 1), .int (I (52 + 2 * s) 1)])) (h1 := (xS b, I, L, xP b)) rfl ⟨s2, t2, trivial⟩ ?_
          refine xw_cong (l' := [.ref 0, .int (nI s), .int i, .int (nI t), .int j, .int n, .ref (52 + 2 * s), .ref (52 + 2 * t)]) (st' := [.int (nI (Y t).2.1), .int (I (52 + 2 * s) 1)]) (h' := (xS b, I, L, xP b)) rfl (show ([.int (I (52 + 2 * t) 1), .int (I (52 + 2 * s) 1)] : List Value) = [.int (nI (Y t).2.1), .int (I (52 + 2 * s) 1)] from ?_) rfl ?_
          · rw [z1]
          refine xw_cong (l' := [.ref 0, .int (nI s), .int i, .int (nI t), .int j, .int n, .ref (52 + 2 * s), .ref (52 + 2 * t)]) (st' := [.int (nI (Y t).2.1), .int (nI (Y s).2.1)]) (h' := (xS b, I, L, xP b)) rfl (show ([.int (nI (Y t).2.1), .int (I (52 + 2 * s) 1)] : List Value) = [.int (nI (Y t).2.1), .int (nI (Y s).2.1)] from ?_) rfl ?_
          · rw [y1]
          refine xw_go xb_105 1 (f1 := (if (nI (Y s).2.1) = (nI (Y t).2.1) then 71 else 68, [.ref 0, .int (nI s), .int i, .int (nI t), .int j, .int n, .ref (52 + 2 * s), .ref (52 + 2 * t)], [])) (h1 := (xS b, I, L, xP b)) rfl trivial ?_
          refine xw_if (fun c_65 => ?_) (fun c_65 => ?_)
          · skip
            refine xw_go xb_105 3 (f1 := (76, [.ref 0, .int (nI s), .int i, .int (nI t), .int j, .int n, .ref (52 + 2 * s), .ref (52 + 2 * t)], [.int n, .int i, .ref (52 + 2 * s)])) (h1 := (xS b, I, L, xP b)) rfl trivial ?_
            refine xw_call xb_105 rfl rfl rfl rfl rfl (Or.inr ⟨_, _, rfl, s2⟩) (c_hasItems (I := I) (z := (Y s).2.2.1) s2 y2 hk.2) ?_
            rintro _ _ ⟨rfl, rfl⟩
            refine xw_at (f' := (79, [.ref 0, .int (nI s), .int i, .int (nI t), .int j, .int n, .ref (52 + 2 * s), .ref (52 + 2 * t)], [.int (nI (xB (decide (0 ≤ i.toInt ∧ 0 ≤ n.toInt ∧ i.toInt + n.toInt ≤ ((Y s).2.2.1 : Int)))))])) (h' := (xS b, I, L, xP b)) rfl rfl ?_
            refine xw_go xb_105 1 (f1 := (if (nI (xB (decide (0 ≤ i.toInt ∧ 0 ≤ n.toInt ∧ i.toInt + n.toInt ≤ ((Y s).2.2.1 : Int))))) = 0 then 94 else 82, [.ref 0, .int (nI s), .int i, .int (nI t), .int j, .int n, .ref (52 + 2 * s), .ref (52 + 2 * t)], [])) (h1 := (xS b, I, L, xP b)) rfl trivial ?_
            refine xw_if (fun c_79 => ?_) (fun c_79 => ?_)
            · skip
              refine xw_go xb_105 1 (f1 := (96, [.ref 0, .int (nI s), .int i, .int (nI t), .int j, .int n, .ref (52 + 2 * s), .ref (52 + 2 * t)], [.int (-13)])) (h1 := (xS b, I, L, xP b)) rfl trivial ?_
              refine xw_ret xb_105 rfl rfl trivial ?_
              exact xHC_s hS
            · skip
              refine xw_go xb_105 3 (f1 := (88, [.ref 0, .int (nI s), .int i, .int (nI t), .int j, .int n, .ref (52 + 2 * s), .ref (52 + 2 * t)], [.int n, .int j, .ref (52 + 2 * t)])) (h1 := (xS b, I, L, xP b)) rfl trivial ?_
              refine xw_call xb_105 rfl rfl rfl rfl rfl (Or.inr ⟨_, _, rfl, t2⟩) (c_hasItems (I := I) (z := (Y t).2.2.1) t2 z2 hk2.2) ?_
              rintro _ _ ⟨rfl, rfl⟩
              refine xw_at (f' := (91, [.ref 0, .int (nI s), .int i, .int (nI t), .int j, .int n, .ref (52 + 2 * s), .ref (52 + 2 * t)], [.int (nI (xB (decide (0 ≤ j.toInt ∧ 0 ≤ n.toInt ∧ j.toInt + n.toInt ≤ ((Y t).2.2.1 : Int)))))])) (h' := (xS b, I, L, xP b)) rfl rfl ?_
              refine xw_go xb_105 1 (f1 := (if ¬ (nI (xB (decide (0 ≤ j.toInt ∧ 0 ≤ n.toInt ∧ j.toInt + n.toInt ≤ ((Y t).2.2.1 : Int))))) = 0 then 97 else 94, [.ref 0, .int (nI s), .int i, .int (nI t), .int j, .int n, .ref (52 + 2 * s), .ref (52 + 2 * t)], [])) (h1 := (xS b, I, L, xP b)) rfl trivial ?_
              refine xw_if (fun c_91 => ?_) (fun c_91 => ?_)
              · skip
                exfalso
                simp only [xB_dec, Classical.not_not] at c_79 c_91
                omega
              · skip
                refine xw_go xb_105 1 (f1 := (96, [.ref 0, .int (nI s), .int i, .int (nI t), .int j, .int n, .ref (52 + 2 * s), .ref (52 + 2 * t)], [.int (-13)])) (h1 := (xS b, I, L, xP b)) rfl trivial ?_
                refine xw_ret xb_105 rfl rfl trivial ?_
                exact xHC_s hS
          · skip
            exact absurd (congrArg nI h3) c_65
        · skip
          exfalso
          first | (rw [h1] at c_41; exact absurd c_41 (by decide)) | (rw [h2] at c_49; exact c_49 (by decide))
    · skip
      exfalso
      try simp only [xB_dec, Classical.not_not] at c_6 c_15
      try simp (disch := omega) only [xt_eq, xt_lt, xt_le, xkt_0, xkt_1, xkt_2, xkt_3, xkt_4, xkt_5, xkt_6, xkt_7, xkt_8, xkt_9, xkt_10, xkt_11, xkt_12, xkt_13, xkt_14, xkt_16, xkt_20, xkt_24, xkt_31, xkt_32, xkt_40, xkt_44, xkt_47, xkt_48, xkt_57, xkt_59, xkt_60, xkt_63, xkt_64, xkt_65, xkt_72, xkt_95, xkt_99, xkt_100, xkt_101, xkt_103, xkt_110, xkt_112, xkt_113, xkt_114, xkt_119, xkt_126, xkt_159, xkt_576, xkt_999, xkt_9999, xkt_65536, xkt_999999, xkt_m1, xkt_m2, xkt_m3, xkt_m4, xkt_m11, xkt_m12, xkt_m13, xkt_m14, xkt_m20, xjt_0, xjt_1, xjt_2, xjt_3, xjt_4, xjt_5, xjt_6, xjt_7, xjt_8, xjt_9, xjt_10, xjt_11, xjt_12, xjt_13, xjt_14, xjt_16, xjt_20, xjt_24, xjt_31, xjt_32, xjt_40, xjt_44, xjt_47, xjt_48, xjt_57, xjt_59, xjt_60, xjt_63, xjt_64, xjt_65, xjt_72, xjt_95, xjt_99, xjt_100, xjt_101, xjt_103, xjt_110, xjt_112, xjt_113, xjt_114, xjt_119, xjt_126, xjt_159, xjt_576, xjt_999, xjt_9999, xjt_65536, xjt_999999, xt64, xt_n, not_true_eq_false, not_false_eq_true, Classical.not_not] at c_6 c_15
      all_goals omega

theorem c_copy4 {d : Nat} {b : Bool} {I : Nat → Nat → Int32} {L : Nat → Nat → Int64} {Y : xY} (hS : xSH Y I L) (hY : xYK Y) {s t : Nat} (hs : s < 4) (ht : t < 4) (h1 : (Y s).1 = true) (h2 : (Y t).1 = true) (h3 : (Y s).2.1 = (Y t).2.1) {p q m : Nat} (h4 : p + m ≤ (Y s).2.2.1) (h5 : q + m ≤ (Y t).2.2.1) {x : Int32} (e_x : x = nI s) {v : Int32} (e_v : v = nI p) {y : Int32} (e_y : y = nI t) {w : Int32} (e_w : w = nI q) {z : Int32} (e_z : z = nI m) : xm_Z (d + 3) 105 [.ref 0, .int x, .int v, .int y, .int w, .int z] (xS b, I, L, xP b) (fun rz hz => xHC b I L (nI m) (va_up Y t (true, (Y t).2.1, (Y t).2.2.1, va_cpy (Y s).2.2.2 (Y t).2.2.2 p q m)) rz hz) := by
  subst e_x
  subst e_v
  subst e_y
  subst e_w
  subst e_z
  have s2 : (xS b)[52 + 2 * s]? = some (10, 4) := xS_52 hs
  have t2 : (xS b)[52 + 2 * t]? = some (10, 4) := xS_52 ht
  have s3 : (xS b)[53 + 2 * s]? = some (1, 24) := xS_53 hs
  have t3 : (xS b)[53 + 2 * t]? = some (1, 24) := xS_53 ht
  obtain ⟨y0, y1, y2, y3⟩ := hS s hs
  obtain ⟨z0, z1, z2, z3⟩ := hS t ht
  have hk := hY s hs
  have hk2 := hY t ht
  refine xw_S xb_105 (l := [.ref 0, .int (nI s), .int (nI p), .int (nI t), .int (nI q), .int (nI m), .float 0, .float 0]) (Nat.le_of_ble_eq_true rfl) rfl ?_
  refine xw_go xb_105 3 (f1 := (3, [.ref 0, .int (nI s), .int (nI p), .int (nI t), .int (nI q), .int (nI m), .float 0, .float 0], [.int 3, .int 0, .int (nI s)])) (h1 := (xS b, I, L, xP b)) rfl trivial ?_
  refine xw_call xb_105 rfl rfl rfl rfl rfl (Or.inl rfl) c_within ?_
  rintro _ _ ⟨rfl, rfl⟩
  refine xw_at (f' := (6, [.ref 0, .int (nI s), .int (nI p), .int (nI t), .int (nI q), .int (nI m), .float 0, .float 0], [.int (nI (xB (decide ((0 : Int32).toInt ≤ (nI s).toInt ∧ (nI s).toInt ≤ (3 : Int32).toInt))))])) (h' := (xS b, I, L, xP b)) rfl rfl ?_
  refine xw_go xb_105 1 (f1 := (if (nI (xB (decide ((0 : Int32).toInt ≤ (nI s).toInt ∧ (nI s).toInt ≤ (3 : Int32).toInt)))) = 0 then 18 else 9, [.ref 0, .int (nI s), .int (nI p), .int (nI t), .int (nI q), .int (nI m), .float 0, .float 0], [])) (h1 := (xS b, I, L, xP b)) rfl trivial ?_
  refine xw_if (fun c_6 => ?_) (fun c_6 => ?_)
  · skip
    exfalso
    try simp only [xB_dec, Classical.not_not] at c_6
    try simp (disch := omega) only [xt_eq, xt_lt, xt_le, xkt_0, xkt_1, xkt_2, xkt_3, xkt_4, xkt_5, xkt_6, xkt_7, xkt_8, xkt_9, xkt_10, xkt_11, xkt_12, xkt_13, xkt_14, xkt_16, xkt_20, xkt_24, xkt_31, xkt_32, xkt_40, xkt_44, xkt_47, xkt_48, xkt_57, xkt_59, xkt_60, xkt_63, xkt_64, xkt_65, xkt_72, xkt_95, xkt_99, xkt_100, xkt_101, xkt_103, xkt_110, xkt_112, xkt_113, xkt_114, xkt_119, xkt_126, xkt_159, xkt_576, xkt_999, xkt_9999, xkt_65536, xkt_999999, xkt_m1, xkt_m2, xkt_m3, xkt_m4, xkt_m11, xkt_m12, xkt_m13, xkt_m14, xkt_m20, xjt_0, xjt_1, xjt_2, xjt_3, xjt_4, xjt_5, xjt_6, xjt_7, xjt_8, xjt_9, xjt_10, xjt_11, xjt_12, xjt_13, xjt_14, xjt_16, xjt_20, xjt_24, xjt_31, xjt_32, xjt_40, xjt_44, xjt_47, xjt_48, xjt_57, xjt_59, xjt_60, xjt_63, xjt_64, xjt_65, xjt_72, xjt_95, xjt_99, xjt_100, xjt_101, xjt_103, xjt_110, xjt_112, xjt_113, xjt_114, xjt_119, xjt_126, xjt_159, xjt_576, xjt_999, xjt_9999, xjt_65536, xjt_999999, xt64, xt_n, not_true_eq_false, not_false_eq_true, Classical.not_not] at c_6
    all_goals omega
  · skip
    refine xw_go xb_105 3 (f1 := (12, [.ref 0, .int (nI s), .int (nI p), .int (nI t), .int (nI q), .int (nI m), .float 0, .float 0], [.int 3, .int 0, .int (nI t)])) (h1 := (xS b, I, L, xP b)) rfl trivial ?_
    refine xw_call xb_105 rfl rfl rfl rfl rfl (Or.inl rfl) c_within ?_
    rintro _ _ ⟨rfl, rfl⟩
    refine xw_at (f' := (15, [.ref 0, .int (nI s), .int (nI p), .int (nI t), .int (nI q), .int (nI m), .float 0, .float 0], [.int (nI (xB (decide ((0 : Int32).toInt ≤ (nI t).toInt ∧ (nI t).toInt ≤ (3 : Int32).toInt))))])) (h' := (xS b, I, L, xP b)) rfl rfl ?_
    refine xw_go xb_105 1 (f1 := (if ¬ (nI (xB (decide ((0 : Int32).toInt ≤ (nI t).toInt ∧ (nI t).toInt ≤ (3 : Int32).toInt)))) = 0 then 20 else 18, [.ref 0, .int (nI s), .int (nI p), .int (nI t), .int (nI q), .int (nI m), .float 0, .float 0], [])) (h1 := (xS b, I, L, xP b)) rfl trivial ?_
    refine xw_if (fun c_15 => ?_) (fun c_15 => ?_)
    · skip
      refine xw_go xb_105 4 (f1 := (26, [.ref 0, .int (nI s), .int (nI p), .int (nI t), .int (nI q), .int (nI m), .float 0, .float 0], [xm_o (xP b 51 (nI s).toNatClampNeg)])) (h1 := (xS b, I, L, xP b)) rfl ⟨rfl, (xn_ar (n := s) (N := 4) rfl (by omega) (by decide)), ⟨Nat.le_of_ble_eq_true rfl, Nat.le_of_ble_eq_true rfl⟩, trivial⟩ ?_
      refine xw_cong (l' := [.ref 0, .int (nI s), .int (nI p), .int (nI t), .int (nI q), .int (nI m), .float 0, .float 0]) (st' := [.ref (52 + 2 * s)]) (h' := (xS b, I, L, xP b)) rfl (show ([xm_o (xP b 51 (nI s).toNatClampNeg)] : List Value) = [.ref (52 + 2 * s)] from ?_) rfl ?_
      · rw [xn_cl (by omega), xP_51 hs]
        rfl
      refine xw_go xb_105 5 (f1 := (34, [.ref 0, .int (nI s), .int (nI p), .int (nI t), .int (nI q), .int (nI m), .ref (52 + 2 * s), .float 0], [xm_o (xP b 51 (nI t).toNatClampNeg)])) (h1 := (xS b, I, L, xP b)) rfl ⟨rfl, (xn_ar (n := t) (N := 4) rfl (by omega) (by decide)), ⟨Nat.le_of_ble_eq_true rfl, Nat.le_of_ble_eq_true rfl⟩, trivial⟩ ?_
      refine xw_cong (l' := [.ref 0, .int (nI s), .int (nI p), .int (nI t), .int (nI q), .int (nI m), .ref (52 + 2 * s), .float 0]) (st' := [.ref (52 + 2 * t)]) (h' := (xS b, I, L, xP b)) rfl (show ([xm_o (xP b 51 (nI t).toNatClampNeg)] : List Value) = [.ref (52 + 2 * t)] from ?_) rfl ?_
      · rw [xn_cl (by omega), xP_51 ht]
        rfl
      refine xw_go xb_105 3 (f1 := (41, [.ref 0, .int (nI s), .int (nI p), .int (nI t), .int (nI q), .int (nI m), .ref (52 + 2 * s), .ref (52 + 2 * t)], [.int (I (52 + 2 * s) 0)])) (h1 := (xS b, I, L, xP b)) rfl ⟨s2, trivial⟩ ?_
      refine xw_cong (l' := [.ref 0, .int (nI s), .int (nI p), .int (nI t), .int (nI q), .int (nI m), .ref (52 + 2 * s), .ref (52 + 2 * t)]) (st' := [.int (nI (xB (Y s).1))]) (h' := (xS b, I, L, xP b)) rfl (show ([.int (I (52 + 2 * s) 0)] : List Value) = [.int (nI (xB (Y s).1))] from ?_) rfl ?_
      · rw [y0]
      refine xw_go xb_105 1 (f1 := (if (nI (xB (Y s).1)) = 0 then 52 else 44, [.ref 0, .int (nI s), .int (nI p), .int (nI t), .int (nI q), .int (nI m), .ref (52 + 2 * s), .ref (52 + 2 * t)], [])) (h1 := (xS b, I, L, xP b)) rfl trivial ?_
      refine xw_if (fun c_41 => ?_) (fun c_41 => ?_)
      · skip
        exfalso
        first | (rw [h1] at c_41; exact absurd c_41 (by decide)) | (rw [h2] at c_49; exact c_49 (by decide))
      · skip
        refine xw_go xb_105 2 (f1 := (49, [.ref 0, .int (nI s), .int (nI p), .int (nI t), .int (nI q), .int (nI m), .ref (52 + 2 * s), .ref (52 + 2 * t)], [.int (I (52 + 2 * t) 0)])) (h1 := (xS b, I, L, xP b)) rfl ⟨t2, trivial⟩ ?_
        refine xw_cong (l' := [.ref 0, .int (nI s), .int (nI p), .int (nI t), .int (nI q), .int (nI m), .ref (52 + 2 * s), .ref (52 + 2 * t)]) (st' := [.int (nI (xB (Y t).1))]) (h' := (xS b, I, L, xP b)) rfl (show ([.int (I (52 + 2 * t) 0)] : List Value) = [.int (nI (xB (Y t).1))] from ?_) rfl ?_
        · rw [z0]
        refine xw_go xb_105 1 (f1 := (if ¬ (nI (xB (Y t).1)) = 0 then 55 else 52, [.ref 0, .int (nI s), .int (nI p), .int (nI t), .int (nI q), .int (nI m), .ref (52 + 2 * s), .ref (52 + 2 * t)], [])) (h1 := (xS b, I, L, xP b)) rfl trivial ?_
        refine xw_if (fun c_49 => ?_) (fun c_49 => ?_)
        · skip
          refine xw_go xb_105 4 (f1 := (65, [.ref 0, .int (nI s), .int (nI p), .int (nI t), .int (nI q), .int (nI m), .ref (52 + 2 * s), .ref (52 + 2 * t)], [.int (I (52 + 2 * t) 1), .int (I (52 + 2 * s) 1)])) (h1 := (xS b, I, L, xP b)) rfl ⟨s2, t2, trivial⟩ ?_
          refine xw_cong (l' := [.ref 0, .int (nI s), .int (nI p), .int (nI t), .int (nI q), .int (nI m), .ref (52 + 2 * s), .ref (52 + 2 * t)]) (st' := [.int (nI (Y t).2.1), .int (I (52 + 2 * s) 1)]) (h' := (xS b, I, L, xP b)) rfl (show ([.int (I (52 + 2 * t) 1), .int (I (52 + 2 * s) 1)] : List Value) = [.int (nI (Y t).2.1), .int (I (52 + 2 * s) 1)] from ?_) rfl ?_
          · rw [z1]
          refine xw_cong (l' := [.ref 0, .int (nI s), .int (nI p), .int (nI t), .int (nI q), .int (nI m), .ref (52 + 2 * s), .ref (52 + 2 * t)]) (st' := [.int (nI (Y t).2.1), .int (nI (Y s).2.1)]) (h' := (xS b, I, L, xP b)) rfl (show ([.int (nI (Y t).2.1), .int (I (52 + 2 * s) 1)] : List Value) = [.int (nI (Y t).2.1), .int (nI (Y s).2.1)] from ?_) rfl ?_
          · rw [y1]
          refine xw_go xb_105 1 (f1 := (if (nI (Y s).2.1) = (nI (Y t).2.1) then 71 else 68, [.ref 0, .int (nI s), .int (nI p), .int (nI t), .int (nI q), .int (nI m), .ref (52 + 2 * s), .ref (52 + 2 * t)], [])) (h1 := (xS b, I, L, xP b)) rfl trivial ?_
          refine xw_if (fun c_65 => ?_) (fun c_65 => ?_)
          · skip
            refine xw_go xb_105 3 (f1 := (76, [.ref 0, .int (nI s), .int (nI p), .int (nI t), .int (nI q), .int (nI m), .ref (52 + 2 * s), .ref (52 + 2 * t)], [.int (nI m), .int (nI p), .ref (52 + 2 * s)])) (h1 := (xS b, I, L, xP b)) rfl trivial ?_
            refine xw_call xb_105 rfl rfl rfl rfl rfl (Or.inr ⟨_, _, rfl, s2⟩) (c_hasItems (I := I) (z := (Y s).2.2.1) s2 y2 hk.2) ?_
            rintro _ _ ⟨rfl, rfl⟩
            refine xw_at (f' := (79, [.ref 0, .int (nI s), .int (nI p), .int (nI t), .int (nI q), .int (nI m), .ref (52 + 2 * s), .ref (52 + 2 * t)], [.int (nI (xB (decide (0 ≤ (nI p).toInt ∧ 0 ≤ (nI m).toInt ∧ (nI p).toInt + (nI m).toInt ≤ ((Y s).2.2.1 : Int)))))])) (h' := (xS b, I, L, xP b)) rfl rfl ?_
            refine xw_go xb_105 1 (f1 := (if (nI (xB (decide (0 ≤ (nI p).toInt ∧ 0 ≤ (nI m).toInt ∧ (nI p).toInt + (nI m).toInt ≤ ((Y s).2.2.1 : Int))))) = 0 then 94 else 82, [.ref 0, .int (nI s), .int (nI p), .int (nI t), .int (nI q), .int (nI m), .ref (52 + 2 * s), .ref (52 + 2 * t)], [])) (h1 := (xS b, I, L, xP b)) rfl trivial ?_
            refine xw_if (fun c_79 => ?_) (fun c_79 => ?_)
            · skip
              exfalso
              try simp only [xB_dec, Classical.not_not] at c_6 c_15 c_41 c_49 c_65 c_79
              try simp (disch := omega) only [xn_sub, xt_eq, xt_lt, xt_le, xkt_0, xkt_1, xkt_2, xkt_3, xkt_4, xkt_5, xkt_6, xkt_7, xkt_8, xkt_9, xkt_10, xkt_11, xkt_12, xkt_13, xkt_14, xkt_16, xkt_20, xkt_24, xkt_31, xkt_32, xkt_40, xkt_44, xkt_47, xkt_48, xkt_57, xkt_59, xkt_60, xkt_63, xkt_64, xkt_65, xkt_72, xkt_95, xkt_99, xkt_100, xkt_101, xkt_103, xkt_110, xkt_112, xkt_113, xkt_114, xkt_119, xkt_126, xkt_159, xkt_576, xkt_999, xkt_9999, xkt_65536, xkt_999999, xkt_m1, xkt_m2, xkt_m3, xkt_m4, xkt_m11, xkt_m12, xkt_m13, xkt_m14, xkt_m20, xjt_0, xjt_1, xjt_2, xjt_3, xjt_4, xjt_5, xjt_6, xjt_7, xjt_8, xjt_9, xjt_10, xjt_11, xjt_12, xjt_13, xjt_14, xjt_16, xjt_20, xjt_24, xjt_31, xjt_32, xjt_40, xjt_44, xjt_47, xjt_48, xjt_57, xjt_59, xjt_60, xjt_63, xjt_64, xjt_65, xjt_72, xjt_95, xjt_99, xjt_100, xjt_101, xjt_103, xjt_110, xjt_112, xjt_113, xjt_114, xjt_119, xjt_126, xjt_159, xjt_576, xjt_999, xjt_9999, xjt_65536, xjt_999999, xt64, xt_n, not_true_eq_false, not_false_eq_true, Classical.not_not] at c_6 c_15 c_41 c_49 c_65 c_79
              all_goals omega
            · skip
              refine xw_go xb_105 3 (f1 := (88, [.ref 0, .int (nI s), .int (nI p), .int (nI t), .int (nI q), .int (nI m), .ref (52 + 2 * s), .ref (52 + 2 * t)], [.int (nI m), .int (nI q), .ref (52 + 2 * t)])) (h1 := (xS b, I, L, xP b)) rfl trivial ?_
              refine xw_call xb_105 rfl rfl rfl rfl rfl (Or.inr ⟨_, _, rfl, t2⟩) (c_hasItems (I := I) (z := (Y t).2.2.1) t2 z2 hk2.2) ?_
              rintro _ _ ⟨rfl, rfl⟩
              refine xw_at (f' := (91, [.ref 0, .int (nI s), .int (nI p), .int (nI t), .int (nI q), .int (nI m), .ref (52 + 2 * s), .ref (52 + 2 * t)], [.int (nI (xB (decide (0 ≤ (nI q).toInt ∧ 0 ≤ (nI m).toInt ∧ (nI q).toInt + (nI m).toInt ≤ ((Y t).2.2.1 : Int)))))])) (h' := (xS b, I, L, xP b)) rfl rfl ?_
              refine xw_go xb_105 1 (f1 := (if ¬ (nI (xB (decide (0 ≤ (nI q).toInt ∧ 0 ≤ (nI m).toInt ∧ (nI q).toInt + (nI m).toInt ≤ ((Y t).2.2.1 : Int))))) = 0 then 97 else 94, [.ref 0, .int (nI s), .int (nI p), .int (nI t), .int (nI q), .int (nI m), .ref (52 + 2 * s), .ref (52 + 2 * t)], [])) (h1 := (xS b, I, L, xP b)) rfl trivial ?_
              refine xw_if (fun c_91 => ?_) (fun c_91 => ?_)
              · skip
                refine xw_go xb_105 2 (f1 := (102, [.ref 0, .int (nI s), .int (nI p), .int (nI t), .int (nI q), .int (nI m), .ref (52 + 2 * s), .ref (52 + 2 * t)], [xm_o (xP b (52 + 2 * s) 3)])) (h1 := (xS b, I, L, xP b)) rfl ⟨s2, trivial⟩ ?_
                refine xw_cong (l' := [.ref 0, .int (nI s), .int (nI p), .int (nI t), .int (nI q), .int (nI m), .ref (52 + 2 * s), .ref (52 + 2 * t)]) (st' := [.ref (53 + 2 * s)]) (h' := (xS b, I, L, xP b)) rfl (show ([xm_o (xP b (52 + 2 * s) 3)] : List Value) = [.ref (53 + 2 * s)] from ?_) rfl ?_
                · rw [xP_52 hs]
                  rfl
                refine xw_go xb_105 3 (f1 := (108, [.ref 0, .int (nI s), .int (nI p), .int (nI t), .int (nI q), .int (nI m), .ref (52 + 2 * s), .ref (52 + 2 * t)], [xm_o (xP b (52 + 2 * t) 3), .int (nI p), .ref (53 + 2 * s)])) (h1 := (xS b, I, L, xP b)) rfl ⟨t2, trivial⟩ ?_
                refine xw_cong (l' := [.ref 0, .int (nI s), .int (nI p), .int (nI t), .int (nI q), .int (nI m), .ref (52 + 2 * s), .ref (52 + 2 * t)]) (st' := [.ref (53 + 2 * t), .int (nI p), .ref (53 + 2 * s)]) (h' := (xS b, I, L, xP b)) rfl (show ([xm_o (xP b (52 + 2 * t) 3), .int (nI p), .ref (53 + 2 * s)] : List Value) = [.ref (53 + 2 * t), .int (nI p), .ref (53 + 2 * s)] from ?_) rfl ?_
                · rw [xP_52 ht]
                  rfl
                refine xw_go xb_105 2 (f1 := (112, [.ref 0, .int (nI s), .int (nI p), .int (nI t), .int (nI q), .int (nI m), .ref (52 + 2 * s), .ref (52 + 2 * t)], [.int (nI m), .int (nI q), .ref (53 + 2 * t), .int (nI p), .ref (53 + 2 * s)])) (h1 := (xS b, I, L, xP b)) rfl trivial ?_
                refine xw_cpL xb_105 rfl rfl rfl ⟨24, 24, s3, t3, by rw [xl_0, nI_ltI (by omega) (by omega)]; omega, by rw [xl_0, nI_ltI (by omega) (by omega)]; omega, by rw [xl_0, nI_ltI (by omega) (by omega)]; omega, by rw [xn_cl (by omega), xn_cl (by omega)]; omega, by rw [xn_cl (by omega), xn_cl (by omega)]; omega⟩ ?_
                refine xw_at (f' := (115, [.ref 0, .int (nI s), .int (nI p), .int (nI t), .int (nI q), .int (nI m), .ref (52 + 2 * s), .ref (52 + 2 * t)], [])) (h' := (xS b, I, va_up L (53 + 2 * t) (va_cpy (L (53 + 2 * s)) (L (53 + 2 * t)) (nI p).toNatClampNeg (nI q).toNatClampNeg (nI m).toNatClampNeg), xP b)) rfl rfl ?_
                refine xw_go xb_105 1 (f1 := (117, [.ref 0, .int (nI s), .int (nI p), .int (nI t), .int (nI q), .int (nI m), .ref (52 + 2 * s), .ref (52 + 2 * t)], [.int (nI m)])) (h1 := (xS b, I, va_up L (53 + 2 * t) (va_cpy (L (53 + 2 * s)) (L (53 + 2 * t)) (nI p).toNatClampNeg (nI q).toNatClampNeg (nI m).toNatClampNeg), xP b)) rfl trivial ?_
                refine xw_ret xb_105 rfl rfl trivial ?_
                rw [xn_cl (by omega), xn_cl (by omega), xn_cl (by omega)]
                refine ⟨rfl, _, _, rfl, ?_, ?_⟩
                · refine xSH_L hS ht h2 fun k hk => ?_
                  unfold va_cpy
                  by_cases e : q ≤ k ∧ k < q + m
                  · rw [if_pos e, if_pos e]
                    exact y3 _ (by omega)
                  · rw [if_neg e, if_neg e]
                    exact z3 k hk
                · intro a ha
                  rw [xm_vu_o (by omega)]
                  exact ⟨rfl, rfl⟩
              · skip
                exfalso
                try simp only [xB_dec, Classical.not_not] at c_6 c_15 c_41 c_49 c_65 c_79 c_91
                try simp (disch := omega) only [xn_sub, xt_eq, xt_lt, xt_le, xkt_0, xkt_1, xkt_2, xkt_3, xkt_4, xkt_5, xkt_6, xkt_7, xkt_8, xkt_9, xkt_10, xkt_11, xkt_12, xkt_13, xkt_14, xkt_16, xkt_20, xkt_24, xkt_31, xkt_32, xkt_40, xkt_44, xkt_47, xkt_48, xkt_57, xkt_59, xkt_60, xkt_63, xkt_64, xkt_65, xkt_72, xkt_95, xkt_99, xkt_100, xkt_101, xkt_103, xkt_110, xkt_112, xkt_113, xkt_114, xkt_119, xkt_126, xkt_159, xkt_576, xkt_999, xkt_9999, xkt_65536, xkt_999999, xkt_m1, xkt_m2, xkt_m3, xkt_m4, xkt_m11, xkt_m12, xkt_m13, xkt_m14, xkt_m20, xjt_0, xjt_1, xjt_2, xjt_3, xjt_4, xjt_5, xjt_6, xjt_7, xjt_8, xjt_9, xjt_10, xjt_11, xjt_12, xjt_13, xjt_14, xjt_16, xjt_20, xjt_24, xjt_31, xjt_32, xjt_40, xjt_44, xjt_47, xjt_48, xjt_57, xjt_59, xjt_60, xjt_63, xjt_64, xjt_65, xjt_72, xjt_95, xjt_99, xjt_100, xjt_101, xjt_103, xjt_110, xjt_112, xjt_113, xjt_114, xjt_119, xjt_126, xjt_159, xjt_576, xjt_999, xjt_9999, xjt_65536, xjt_999999, xt64, xt_n, not_true_eq_false, not_false_eq_true, Classical.not_not] at c_6 c_15 c_41 c_49 c_65 c_79 c_91
                all_goals omega
          · skip
            exact absurd (congrArg nI h3) c_65
        · skip
          exfalso
          first | (rw [h1] at c_41; exact absurd c_41 (by decide)) | (rw [h2] at c_49; exact c_49 (by decide))
    · skip
      exfalso
      try simp only [xB_dec, Classical.not_not] at c_6 c_15
      try simp (disch := omega) only [xt_eq, xt_lt, xt_le, xkt_0, xkt_1, xkt_2, xkt_3, xkt_4, xkt_5, xkt_6, xkt_7, xkt_8, xkt_9, xkt_10, xkt_11, xkt_12, xkt_13, xkt_14, xkt_16, xkt_20, xkt_24, xkt_31, xkt_32, xkt_40, xkt_44, xkt_47, xkt_48, xkt_57, xkt_59, xkt_60, xkt_63, xkt_64, xkt_65, xkt_72, xkt_95, xkt_99, xkt_100, xkt_101, xkt_103, xkt_110, xkt_112, xkt_113, xkt_114, xkt_119, xkt_126, xkt_159, xkt_576, xkt_999, xkt_9999, xkt_65536, xkt_999999, xkt_m1, xkt_m2, xkt_m3, xkt_m4, xkt_m11, xkt_m12, xkt_m13, xkt_m14, xkt_m20, xjt_0, xjt_1, xjt_2, xjt_3, xjt_4, xjt_5, xjt_6, xjt_7, xjt_8, xjt_9, xjt_10, xjt_11, xjt_12, xjt_13, xjt_14, xjt_16, xjt_20, xjt_24, xjt_31, xjt_32, xjt_40, xjt_44, xjt_47, xjt_48, xjt_57, xjt_59, xjt_60, xjt_63, xjt_64, xjt_65, xjt_72, xjt_95, xjt_99, xjt_100, xjt_101, xjt_103, xjt_110, xjt_112, xjt_113, xjt_114, xjt_119, xjt_126, xjt_159, xjt_576, xjt_999, xjt_9999, xjt_65536, xjt_999999, xt64, xt_n, not_true_eq_false, not_false_eq_true, Classical.not_not] at c_6 c_15
      all_goals omega

