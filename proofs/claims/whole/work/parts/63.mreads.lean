/-! ===== the model reads: letters, a row ===== -/
theorem m_freshLawn2 {d : Nat} {b : Bool} {I : Nat → Nat → Int32} {L : Nat → Nat → Int64} {N : Nat → Nat} (hM : xMN N I) {r c : Nat} {x1 : Int32} (e_x1 : x1 = nI r) {x2 : Int32} (e_x2 : x2 = nI c) : xm_Z (d + 1) 109 [.ref 60, .int x1, .int x2] (xS b, I, L, xP b) (fun rz hz => rz = none ∧ ∃ I', hz = (xS b, I', L, xP b) ∧ xMN (xnw N r c) I' ∧ I' 60 10 = 0 ∧ xMF I I' ∧ I' 65 = I 65 ∧ I' 66 = I 66) := by
  subst e_x1
  subst e_x2
  refine xw_S xb_109 (l := [.ref 60, .int (nI r), .int (nI c), .float 0]) (Nat.le_of_ble_eq_true rfl) rfl ?_
  refine xw_go xb_109 32 (f1 := (46, [.ref 60, .int (nI r), .int (nI c), .int 31], [])) (h1 := (xS b, xm_up (xm_up (xm_up (xm_up (xm_up (xm_up I 61 (0 : Int32).toNatClampNeg (nI r)) 61 (1 : Int32).toNatClampNeg (nI c)) 61 (2 : Int32).toNatClampNeg 0) 61 (3 : Int32).toNatClampNeg 0) 61 (4 : Int32).toNatClampNeg 0) 61 (9 : Int32).toNatClampNeg 0, L, xP b)) rfl ⟨rfl, (xn_ar (n := 0) (N := 159) rfl (by decide) (by decide)), rfl, (xn_ar (n := 1) (N := 159) rfl (by decide) (by decide)), rfl, (xn_ar (n := 2) (N := 159) rfl (by decide) (by decide)), rfl, (xn_ar (n := 3) (N := 159) rfl (by decide) (by decide)), rfl, (xn_ar (n := 4) (N := 159) rfl (by decide) (by decide)), rfl, (xn_ar (n := 9) (N := 159) rfl (by decide) (by decide)), trivial⟩ ?_
  refine xw_at (f' := (46, [.ref 60, .int (nI r), .int (nI c), .int (nI (31 + 0))], [])) (h' := (xS b, va_up (xm_up (xm_up (xm_up (xm_up (xm_up (xm_up I 61 0 (nI r)) 61 1 (nI c)) 61 2 0) 61 3 0) 61 4 0) 61 9 0) 61 (fun j => if 31 ≤ j ∧ j < 31 + 0 then 0 else (xm_up (xm_up (xm_up (xm_up (xm_up (xm_up I 61 0 (nI r)) 61 1 (nI c)) 61 2 0) 61 3 0) 61 4 0) 61 9 0) 61 j), L, xP b)) rfl ?_ ?_
  · refine congrArg (fun X => (xS b, X, L, xP b)) ?_
    funext a j
    by_cases ha : a = 61
    · subst ha
      simp only [va_up, if_true]
      rw [if_neg (by omega)]
      rfl
    · rw [xm_vu_o ha]
      rfl
  refine xw_loop 128 (fun i => (46, [.ref 60, .int (nI r), .int (nI c), .int (nI (31 + i))], [])) (fun i => (xS b, va_up (xm_up (xm_up (xm_up (xm_up (xm_up (xm_up I 61 0 (nI r)) 61 1 (nI c)) 61 2 0) 61 3 0) 61 4 0) 61 9 0) 61 (fun j => if 31 ≤ j ∧ j < 31 + i then 0 else (xm_up (xm_up (xm_up (xm_up (xm_up (xm_up I 61 0 (nI r)) 61 1 (nI c)) 61 2 0) 61 3 0) 61 4 0) 61 9 0) 61 j), L, xP b)) (fun i hi ih => ?_) ?_ 0 (Nat.zero_le _)
  · skip
    refine xw_go xb_109 3 (f1 := (if 159 ≤ (nI (31 + i)) then 66 else 53, [.ref 60, .int (nI r), .int (nI c), .int (nI (31 + i))], [])) (h1 := (xS b, va_up (xm_up (xm_up (xm_up (xm_up (xm_up (xm_up I 61 0 (nI r)) 61 1 (nI c)) 61 2 0) 61 3 0) 61 4 0) 61 9 0) 61 (fun j => if 31 ≤ j ∧ j < 31 + i then 0 else (xm_up (xm_up (xm_up (xm_up (xm_up (xm_up I 61 0 (nI r)) 61 1 (nI c)) 61 2 0) 61 3 0) 61 4 0) 61 9 0) 61 j), L, xP b)) rfl trivial ?_
    refine xw_if (fun c_50 => ?_) (fun c_50 => ?_)
    · skip
      exfalso
      simp (disch := omega) only [xl_159, nI_leI] at c_50
      omega
    · skip
      refine xw_go xb_109 7 (f1 := (46, [.ref 60, .int (nI r), .int (nI c), .int ((nI (31 + i)) + 1)], [])) (h1 := (xS b, xm_up (va_up (xm_up (xm_up (xm_up (xm_up (xm_up (xm_up I 61 0 (nI r)) 61 1 (nI c)) 61 2 0) 61 3 0) 61 4 0) 61 9 0) 61 (fun j => if 31 ≤ j ∧ j < 31 + i then 0 else (xm_up (xm_up (xm_up (xm_up (xm_up (xm_up I 61 0 (nI r)) 61 1 (nI c)) 61 2 0) 61 3 0) 61 4 0) 61 9 0) 61 j)) 61 (nI (31 + i)).toNatClampNeg 0, L, xP b)) rfl ⟨rfl, (xn_ar (n := 31 + i) (N := 159) rfl (by omega) (by decide)), trivial⟩ ?_
      refine xw_cong ?_ rfl ?_ ih
      · rw [nI_1, Nat.add_assoc]
      · rw [xn_cl (by omega), xup_s]
        refine congrArg (fun X => (xS b, va_up (xm_up (xm_up (xm_up (xm_up (xm_up (xm_up I 61 0 (nI r)) 61 1 (nI c)) 61 2 0) 61 3 0) 61 4 0) 61 9 0) 61 X, L, xP b)) ?_
        funext j
        by_cases hj : j = 31 + i
        · subst hj
          simp only [va_up, if_true]
          rw [if_pos (by omega)]
        · simp only [va_up, hj, if_false]
          by_cases h1 : 31 ≤ j ∧ j < 31 + i
          · rw [if_pos h1, if_pos (by omega)]
          · rw [if_neg h1, if_neg (by omega)]
  · skip
    refine xw_go xb_109 3 (f1 := (if 159 ≤ (nI (31 + 128)) then 66 else 53, [.ref 60, .int (nI r), .int (nI c), .int (nI (31 + 128))], [])) (h1 := (xS b, va_up (xm_up (xm_up (xm_up (xm_up (xm_up (xm_up I 61 0 (nI r)) 61 1 (nI c)) 61 2 0) 61 3 0) 61 4 0) 61 9 0) 61 (fun j => if 31 ≤ j ∧ j < 31 + 128 then 0 else (xm_up (xm_up (xm_up (xm_up (xm_up (xm_up I 61 0 (nI r)) 61 1 (nI c)) 61 2 0) 61 3 0) 61 4 0) 61 9 0) 61 j), L, xP b)) rfl trivial ?_
    refine xw_if (fun c_50 => ?_) (fun c_50 => ?_)
    · skip
      refine xw_go xb_109 3 (f1 := (71, [.ref 60, .int (nI r), .int (nI c), .int (nI (31 + 128))], [])) (h1 := (xS b, xm_up (va_up (xm_up (xm_up (xm_up (xm_up (xm_up (xm_up I 61 0 (nI r)) 61 1 (nI c)) 61 2 0) 61 3 0) 61 4 0) 61 9 0) 61 (fun j => if 31 ≤ j ∧ j < 31 + 128 then 0 else (xm_up (xm_up (xm_up (xm_up (xm_up (xm_up I 61 0 (nI r)) 61 1 (nI c)) 61 2 0) 61 3 0) 61 4 0) 61 9 0) 61 j)) 60 10 0, L, xP b)) rfl ⟨rfl, trivial⟩ ?_
      refine xw_ret xb_109 rfl rfl trivial ?_
      refine ⟨rfl, _, rfl, ?_, rfl, ?_, rfl, rfl⟩
      · refine fun k hk => ?_
        rw [xm_up_o (by decide)]
        rw [show ∀ (f : Nat → Nat → Int32) (g : Nat → Int32), va_up f 61 g 61 = g from fun f g => by simp [va_up]]
        exact xMN_nw hM k hk
      · exact xMF_n (xMF_v (xMF_u (xMF_u (xMF_u (xMF_u (xMF_u (xMF_u (xMF_r I) (Or.inl rfl)) (Or.inl rfl)) (Or.inl rfl)) (Or.inl rfl)) (Or.inl rfl)) (Or.inl rfl)) (Or.inl rfl))
    · skip
      exfalso
      simp (disch := omega) only [xl_159, nI_leI] at c_50
      omega
theorem m_comes2 {d : Nat} {b : Bool} {I : Nat → Nat → Int32} {L : Nat → Nat → Int64} {N : Nat → Nat} (hM : xMN N I) {k pl re pw : Nat} (hn : N 2 < 5) {x1 : Int32} (e_x1 : x1 = nI k) {x2 : Int32} (e_x2 : x2 = nI pl) {x3 : Int32} (e_x3 : x3 = nI re) {x4 : Int32} (e_x4 : x4 = nI pw) : xm_Z (d + 1) 114 [.ref 60, .int x1, .int x2, .int x3, .int x4] (xS b, I, L, xP b) (fun rz hz => rz = none ∧ ∃ I', hz = (xS b, I', L, xP b) ∧ xMN (xadd N k pl re pw) I' ∧ I' 60 10 = 0 ∧ xMF I I' ∧ I' 65 = I 65 ∧ I' 66 = I 66) := by
  subst e_x1
  subst e_x2
  subst e_x3
  subst e_x4
  refine xw_S xb_114 (l := [.ref 60, .int (nI k), .int (nI pl), .int (nI re), .int (nI pw), .float 0]) (Nat.le_of_ble_eq_true rfl) rfl ?_
  refine xw_go xb_114 9 (f1 := (13, [.ref 60, .int (nI k), .int (nI pl), .int (nI re), .int (nI pw), .int (11 + (4 * (I 61 (2 : Int32).toNatClampNeg)))], [])) (h1 := (xS b, I, L, xP b)) rfl ⟨rfl, (xn_ar (n := 2) (N := 159) rfl (by decide) (by decide)), trivial⟩ ?_
  refine xw_cong (l' := [.ref 60, .int (nI k), .int (nI pl), .int (nI re), .int (nI pw), .int (nI (11 + 4 * N 2))]) (st' := []) (h' := (xS b, I, L, xP b)) (show ([.ref 60, .int (nI k), .int (nI pl), .int (nI re), .int (nI pw), .int (11 + (4 * (I 61 (2 : Int32).toNatClampNeg)))] : List Value) = [.ref 60, .int (nI k), .int (nI pl), .int (nI re), .int (nI pw), .int (nI (11 + 4 * N 2))] from ?_) rfl rfl ?_
  · rw [show (2 : Int32).toNatClampNeg = 2 from rfl, hM 2 (by decide), xl_4, xl_11, pk_mul, nI_add]
  refine xw_go xb_114 37 (f1 := (67, [.ref 60, .int (nI k), .int (nI pl), .int (nI re), .int (nI pw), .int (nI (11 + 4 * N 2))], [])) (h1 := (xS b, xm_up (xm_up (xm_up (xm_up (xm_up (xm_up I 61 (nI (11 + 4 * N 2)).toNatClampNeg (nI k)) 61 ((nI (11 + 4 * N 2)) + 1).toNatClampNeg (nI pl)) 61 ((nI (11 + 4 * N 2)) + 2).toNatClampNeg (nI re)) 61 ((nI (11 + 4 * N 2)) + 3).toNatClampNeg (nI pw)) 61 (2 : Int32).toNatClampNeg (((xm_up (xm_up (xm_up (xm_up I 61 (nI (11 + 4 * N 2)).toNatClampNeg (nI k)) 61 ((nI (11 + 4 * N 2)) + 1).toNatClampNeg (nI pl)) 61 ((nI (11 + 4 * N 2)) + 2).toNatClampNeg (nI re)) 61 ((nI (11 + 4 * N 2)) + 3).toNatClampNeg (nI pw)) 61 (2 : Int32).toNatClampNeg) + 1)) 60 10 0, L, xP b)) rfl ⟨rfl, (xn_ar (n := 11 + 4 * N 2) (N := 159) rfl (by omega) (by decide)), rfl, (xn_ar' (n := 11 + 4 * N 2 + 1) (N := 159) rfl (show nI (11 + 4 * N 2) + 1 = _ by rw [xl_1, nI_add]) (by omega) (by decide)), rfl, (xn_ar' (n := 11 + 4 * N 2 + 2) (N := 159) rfl (show nI (11 + 4 * N 2) + 2 = _ by rw [xl_2, nI_add]) (by omega) (by decide)), rfl, (xn_ar' (n := 11 + 4 * N 2 + 3) (N := 159) rfl (show nI (11 + 4 * N 2) + 3 = _ by rw [xl_3, nI_add]) (by omega) (by decide)), rfl, (xn_ar (n := 2) (N := 159) rfl (by decide) (by decide)), (xn_ar (n := 2) (N := 159) rfl (by decide) (by decide)), rfl, trivial⟩ ?_
  refine xw_ret xb_114 rfl rfl trivial ?_
  rw [show (2 : Int32).toNatClampNeg = 2 from rfl, xl_1, xl_2, xl_3, nI_add, nI_add, nI_add, xn_cl (by omega), xn_cl (by omega), xn_cl (by omega), xn_cl (by omega)]
  have e2 : ∀ v1 v2 v3 v4 : Int32, xm_up (xm_up (xm_up (xm_up I 61 (11 + 4 * N 2) v1) 61 (11 + 4 * N 2 + 1) v2) 61 (11 + 4 * N 2 + 2) v3) 61 (11 + 4 * N 2 + 3) v4 61 2 = nI (N 2) := fun v1 v2 v3 v4 => by
    rw [xm_up_ne (Or.inr (by omega)), xm_up_ne (Or.inr (by omega)), xm_up_ne (Or.inr (by omega)), xm_up_ne (Or.inr (by omega))]
    exact hM 2 (by decide)
  rw [e2, nI_add]
  refine ⟨rfl, _, rfl, ?_, rfl, ?_, rfl, rfl⟩
  · intro j hj
    rw [xm_up_o (by decide)]
    unfold xadd
    by_cases h2 : j = 2
    · subst h2
      rw [if_pos rfl]
      exact xm_up_at _ _ _ _
    rw [if_neg h2, xm_up_ne (Or.inr h2)]
    by_cases h3 : j = 11 + 4 * N 2 + 3
    · rw [h3, xm_up_at, if_neg (by omega), if_neg (by omega), if_neg (by omega), if_pos (by omega)]
    rw [xm_up_ne (Or.inr h3)]
    by_cases h4 : j = 11 + 4 * N 2 + 2
    · rw [h4, xm_up_at, if_neg (by omega), if_neg (by omega), if_pos (by omega)]
    rw [xm_up_ne (Or.inr h4)]
    by_cases h5 : j = 11 + 4 * N 2 + 1
    · rw [h5, xm_up_at, if_neg (by omega), if_pos (by omega)]
    rw [xm_up_ne (Or.inr h5)]
    by_cases h6 : j = 11 + 4 * N 2
    · rw [h6, xm_up_at, if_pos rfl]
    rw [xm_up_ne (Or.inr h6), if_neg h6, if_neg (by omega), if_neg (by omega), if_neg (by omega)]
    exact hM j hj
  · exact xMF_n (xMF_u (xMF_u (xMF_u (xMF_u (xMF_u (xMF_r I) (Or.inl rfl)) (Or.inl rfl)) (Or.inl rfl)) (Or.inl rfl)) (Or.inl rfl))
def xMR (T : Nat → Nat) (t : Nat) (I : Nat → Nat → Int32) : Prop := t ≤ 110 ∧ (∀ k, k < t → 32 ≤ T k ∧ T k ≤ 126) ∧ I 60 4 = nI t ∧ ∀ k, k < t → I 64 k = nI (T k)
theorem xMR_fr {T : Nat → Nat} {t : Nat} {I J : Nat → Nat → Int32} (h : xMR T t I) (h1 : J 60 4 = I 60 4) (h2 : J 64 = I 64) : xMR T t J := ⟨h.1, h.2.1, by rw [h1]; exact h.2.2.1, by rw [h2]; exact h.2.2.2⟩
theorem xdgM {l lo hi : Nat} (hl : l ≤ 126) (h1 : lo < 1000) (h2 : hi < 1000) : ((nI lo).toInt64.toInt ≤ (nI l - 48).toInt64.toInt ∧ (nI l - 48).toInt64.toInt ≤ (nI hi).toInt64.toInt) ↔ (48 + lo ≤ l ∧ l ≤ 48 + hi) := by
  rw [xt64, xt64, xt64, xt_n (by omega), xt_n (by omega), xl_48, xt_sub (by omega) (by omega)]
  omega
theorem m_here {d : Nat} {b : Bool} {I : Nat → Nat → Int32} {L : Nat → Nat → Int64} {T : Nat → Nat} {t : Nat} (hR : xMR T t I) {a : Nat} (ha : I 60 5 = nI a) (al : a ≤ t) : xm_Z (d + 1) 136 [.ref 60] (xS b, I, L, xP b) (fun rz hz => rz = some (.int (nI (xlt T t a))) ∧ hz = (xS b, xm_up I 60 5 (nI (xsk T t a)), L, xP b)) := by
  obtain ⟨h110, hT, h1, hX⟩ := hR
  refine xw_S xb_136 (l := [.ref 60]) (Nat.le_of_ble_eq_true rfl) rfl ?_
  refine xw_at (f' := (0, [.ref 60], [])) (h' := (xS b, xm_up I 60 5 (nI (a + 0)), L, xP b)) rfl (by rw [Nat.add_zero, xup_me ha]) ?_
  refine xw_loop (xsk T t a - a) (fun k => (0, [.ref 60], [])) (fun k => (xS b, xm_up I 60 5 (nI (a + k)), L, xP b)) (fun k hk ih => ?_) ?_ 0 (Nat.zero_le _)
  · have bl := xsk_bl (T := T) (t := t) a (a + k) (by omega) (by omega)
    have tk := hT (a + k) bl.1
    refine xw_go xb_136 2 (f1 := (4, [.ref 60], [.int ((xm_up I 60 5 (nI (a + k))) 60 5)])) (h1 := (xS b, xm_up I 60 5 (nI (a + k)), L, xP b)) rfl ⟨rfl, trivial⟩ ?_
    refine xw_cong (l' := [.ref 60]) (st' := [.int (nI (a + k))]) (h' := (xS b, xm_up I 60 5 (nI (a + k)), L, xP b)) rfl (show ([.int ((xm_up I 60 5 (nI (a + k))) 60 5)] : List Value) = [.int (nI (a + k))] from ?_) rfl ?_
    · rw [xm_up_at]
    refine xw_go xb_136 2 (f1 := (8, [.ref 60], [.int ((xm_up I 60 5 (nI (a + k))) 60 4), .int (nI (a + k))])) (h1 := (xS b, xm_up I 60 5 (nI (a + k)), L, xP b)) rfl ⟨rfl, trivial⟩ ?_
    refine xw_cong (l' := [.ref 60]) (st' := [.int (nI t), .int (nI (a + k))]) (h' := (xS b, xm_up I 60 5 (nI (a + k)), L, xP b)) rfl (show ([.int ((xm_up I 60 5 (nI (a + k))) 60 4), .int (nI (a + k))] : List Value) = [.int (nI t), .int (nI (a + k))] from ?_) rfl ?_
    · rw [xm_up_ne (Or.inr (by decide)), h1]
    refine xw_go xb_136 1 (f1 := (if (nI t) ≤ (nI (a + k)) then 38 else 11, [.ref 60], [])) (h1 := (xS b, xm_up I 60 5 (nI (a + k)), L, xP b)) rfl trivial ?_
    refine xw_if (fun c_8 => ?_) (fun c_8 => ?_)
    · skip
      exfalso
      try simp only [xB_dec, Classical.not_not] at c_8
      try simp (disch := omega) only [xt_eq, xt_lt, xt_le, xkt_0, xkt_1, xkt_2, xkt_3, xkt_4, xkt_5, xkt_6, xkt_7, xkt_8, xkt_9, xkt_10, xkt_11, xkt_12, xkt_13, xkt_14, xkt_16, xkt_20, xkt_24, xkt_31, xkt_32, xkt_40, xkt_44, xkt_47, xkt_48, xkt_57, xkt_59, xkt_60, xkt_63, xkt_64, xkt_65, xkt_72, xkt_95, xkt_99, xkt_100, xkt_101, xkt_103, xkt_110, xkt_112, xkt_113, xkt_114, xkt_119, xkt_126, xkt_159, xkt_576, xkt_999, xkt_9999, xkt_65536, xkt_999999, xkt_m1, xkt_m2, xkt_m3, xkt_m4, xkt_m11, xkt_m12, xkt_m13, xkt_m14, xkt_m20, xjt_0, xjt_1, xjt_2, xjt_3, xjt_4, xjt_5, xjt_6, xjt_7, xjt_8, xjt_9, xjt_10, xjt_11, xjt_12, xjt_13, xjt_14, xjt_16, xjt_20, xjt_24, xjt_31, xjt_32, xjt_40, xjt_44, xjt_47, xjt_48, xjt_57, xjt_59, xjt_60, xjt_63, xjt_64, xjt_65, xjt_72, xjt_95, xjt_99, xjt_100, xjt_101, xjt_103, xjt_110, xjt_112, xjt_113, xjt_114, xjt_119, xjt_126, xjt_159, xjt_576, xjt_999, xjt_9999, xjt_65536, xjt_999999, xt64, xt_n, not_true_eq_false, not_false_eq_true, Classical.not_not] at c_8
      all_goals omega
    · skip
      refine xw_go xb_136 4 (f1 := (19, [.ref 60], [.int ((xm_up I 60 5 (nI (a + k))) 60 5), .ref 64])) (h1 := (xS b, xm_up I 60 5 (nI (a + k)), L, xP b)) rfl ⟨rfl, rfl, trivial⟩ ?_
      refine xw_cong (l' := [.ref 60]) (st' := [.int (nI (a + k)), .ref 64]) (h' := (xS b, xm_up I 60 5 (nI (a + k)), L, xP b)) rfl (show ([.int ((xm_up I 60 5 (nI (a + k))) 60 5), .ref 64] : List Value) = [.int (nI (a + k)), .ref 64] from ?_) rfl ?_
      · rw [xm_up_at]
      refine xw_go xb_136 1 (f1 := (20, [.ref 60], [.int ((xm_up I 60 5 (nI (a + k))) 64 (nI (a + k)).toNatClampNeg)])) (h1 := (xS b, xm_up I 60 5 (nI (a + k)), L, xP b)) rfl ⟨(xn_ar (n := a + k) (N := 110) rfl (by simp (disch := omega) only [nI_ltI, nI_leI] at c_8; omega) (by decide)), trivial⟩ ?_
      refine xw_cong (l' := [.ref 60]) (st' := [.int (nI (T (a + k)))]) (h' := (xS b, xm_up I 60 5 (nI (a + k)), L, xP b)) rfl (show ([.int ((xm_up I 60 5 (nI (a + k))) 64 (nI (a + k)).toNatClampNeg)] : List Value) = [.int (nI (T (a + k)))] from ?_) rfl ?_
      · simp (disch := omega) only [nI_ltI, nI_leI] at c_8
        rw [xm_up_o (by decide), xn_cl (by omega), hX _ (by omega)]
      refine xw_go xb_136 2 (f1 := (if ¬ (nI (T (a + k))) = 32 then 38 else 25, [.ref 60], [])) (h1 := (xS b, xm_up I 60 5 (nI (a + k)), L, xP b)) rfl trivial ?_
      refine xw_if (fun c_22 => ?_) (fun c_22 => ?_)
      · skip
        exfalso
        try simp only [xB_dec, Classical.not_not] at c_8 c_22
        try simp (disch := omega) only [xt_eq, xt_lt, xt_le, xkt_0, xkt_1, xkt_2, xkt_3, xkt_4, xkt_5, xkt_6, xkt_7, xkt_8, xkt_9, xkt_10, xkt_11, xkt_12, xkt_13, xkt_14, xkt_16, xkt_20, xkt_24, xkt_31, xkt_32, xkt_40, xkt_44, xkt_47, xkt_48, xkt_57, xkt_59, xkt_60, xkt_63, xkt_64, xkt_65, xkt_72, xkt_95, xkt_99, xkt_100, xkt_101, xkt_103, xkt_110, xkt_112, xkt_113, xkt_114, xkt_119, xkt_126, xkt_159, xkt_576, xkt_999, xkt_9999, xkt_65536, xkt_999999, xkt_m1, xkt_m2, xkt_m3, xkt_m4, xkt_m11, xkt_m12, xkt_m13, xkt_m14, xkt_m20, xjt_0, xjt_1, xjt_2, xjt_3, xjt_4, xjt_5, xjt_6, xjt_7, xjt_8, xjt_9, xjt_10, xjt_11, xjt_12, xjt_13, xjt_14, xjt_16, xjt_20, xjt_24, xjt_31, xjt_32, xjt_40, xjt_44, xjt_47, xjt_48, xjt_57, xjt_59, xjt_60, xjt_63, xjt_64, xjt_65, xjt_72, xjt_95, xjt_99, xjt_100, xjt_101, xjt_103, xjt_110, xjt_112, xjt_113, xjt_114, xjt_119, xjt_126, xjt_159, xjt_576, xjt_999, xjt_9999, xjt_65536, xjt_999999, xt64, xt_n, not_true_eq_false, not_false_eq_true, Classical.not_not] at c_8 c_22
        all_goals omega
      · skip
        refine xw_go xb_136 7 (f1 := (0, [.ref 60], [])) (h1 := (xS b, xm_up (xm_up I 60 5 (nI (a + k))) 60 5 (((xm_up I 60 5 (nI (a + k))) 60 5) + 1), L, xP b)) rfl ⟨rfl, rfl, trivial⟩ ?_
        refine xw_cong rfl rfl ?_ ih
        rw [xm_up_at, nI_1, xup_2, Nat.add_assoc]
  · have se := xsk_end (T := T) (t := t) a
    have sl := xsk_le (T := T) (t := t) al
    have sg := xsk_ge (T := T) (t := t) a
    refine xw_at (f' := (0, [.ref 60], [])) (h' := (xS b, xm_up I 60 5 (nI (xsk T t a)), L, xP b)) rfl (by rw [show a + (xsk T t a - a) = xsk T t a by omega]) ?_
    unfold xlt
    generalize xsk T t a = e at se sl sg ⊢
    have te : e < t → 32 ≤ T e ∧ T e ≤ 126 := fun q => hT e q
    refine xw_go xb_136 2 (f1 := (4, [.ref 60], [.int ((xm_up I 60 5 (nI e)) 60 5)])) (h1 := (xS b, xm_up I 60 5 (nI e), L, xP b)) rfl ⟨rfl, trivial⟩ ?_
    refine xw_cong (l' := [.ref 60]) (st' := [.int (nI e)]) (h' := (xS b, xm_up I 60 5 (nI e), L, xP b)) rfl (show ([.int ((xm_up I 60 5 (nI e)) 60 5)] : List Value) = [.int (nI e)] from ?_) rfl ?_
    · rw [xm_up_at]
    refine xw_go xb_136 2 (f1 := (8, [.ref 60], [.int ((xm_up I 60 5 (nI e)) 60 4), .int (nI e)])) (h1 := (xS b, xm_up I 60 5 (nI e), L, xP b)) rfl ⟨rfl, trivial⟩ ?_
    refine xw_cong (l' := [.ref 60]) (st' := [.int (nI t), .int (nI e)]) (h' := (xS b, xm_up I 60 5 (nI e), L, xP b)) rfl (show ([.int ((xm_up I 60 5 (nI e)) 60 4), .int (nI e)] : List Value) = [.int (nI t), .int (nI e)] from ?_) rfl ?_
    · rw [xm_up_ne (Or.inr (by decide)), h1]
    refine xw_go xb_136 1 (f1 := (if (nI t) ≤ (nI e) then 38 else 11, [.ref 60], [])) (h1 := (xS b, xm_up I 60 5 (nI e), L, xP b)) rfl trivial ?_
    refine xw_if (fun c_8 => ?_) (fun c_8 => ?_)
    · skip
      refine xw_go xb_136 2 (f1 := (42, [.ref 60], [.int ((xm_up I 60 5 (nI e)) 60 5)])) (h1 := (xS b, xm_up I 60 5 (nI e), L, xP b)) rfl ⟨rfl, trivial⟩ ?_
      refine xw_cong (l' := [.ref 60]) (st' := [.int (nI e)]) (h' := (xS b, xm_up I 60 5 (nI e), L, xP b)) rfl (show ([.int ((xm_up I 60 5 (nI e)) 60 5)] : List Value) = [.int (nI e)] from ?_) rfl ?_
      · rw [xm_up_at]
      refine xw_go xb_136 2 (f1 := (46, [.ref 60], [.int ((xm_up I 60 5 (nI e)) 60 4), .int (nI e)])) (h1 := (xS b, xm_up I 60 5 (nI e), L, xP b)) rfl ⟨rfl, trivial⟩ ?_
      refine xw_cong (l' := [.ref 60]) (st' := [.int (nI t), .int (nI e)]) (h' := (xS b, xm_up I 60 5 (nI e), L, xP b)) rfl (show ([.int ((xm_up I 60 5 (nI e)) 60 4), .int (nI e)] : List Value) = [.int (nI t), .int (nI e)] from ?_) rfl ?_
      · rw [xm_up_ne (Or.inr (by decide)), h1]
      refine xw_go xb_136 1 (f1 := (if (nI t) ≤ (nI e) then 61 else 49, [.ref 60], [])) (h1 := (xS b, xm_up I 60 5 (nI e), L, xP b)) rfl trivial ?_
      refine xw_if (fun c_46 => ?_) (fun c_46 => ?_)
      · skip
        refine xw_go xb_136 1 (f1 := (62, [.ref 60], [.int 0])) (h1 := (xS b, xm_up I 60 5 (nI e), L, xP b)) rfl trivial ?_
        refine xw_ret xb_136 rfl rfl trivial ?_
        simp (disch := omega) only [nI_leI] at c_46
        rw [if_neg (by omega)]
        exact ⟨rfl, rfl⟩
      · skip
        refine xw_go xb_136 4 (f1 := (57, [.ref 60], [.int ((xm_up I 60 5 (nI e)) 60 5), .ref 64])) (h1 := (xS b, xm_up I 60 5 (nI e), L, xP b)) rfl ⟨rfl, rfl, trivial⟩ ?_
        refine xw_cong (l' := [.ref 60]) (st' := [.int (nI e), .ref 64]) (h' := (xS b, xm_up I 60 5 (nI e), L, xP b)) rfl (show ([.int ((xm_up I 60 5 (nI e)) 60 5), .ref 64] : List Value) = [.int (nI e), .ref 64] from ?_) rfl ?_
        · rw [xm_up_at]
        refine xw_go xb_136 1 (f1 := (58, [.ref 60], [.int ((xm_up I 60 5 (nI e)) 64 (nI e).toNatClampNeg)])) (h1 := (xS b, xm_up I 60 5 (nI e), L, xP b)) rfl ⟨(xn_ar (n := e) (N := 110) rfl (by simp (disch := omega) only [nI_ltI, nI_leI] at c_46; omega) (by decide)), trivial⟩ ?_
        refine xw_cong (l' := [.ref 60]) (st' := [.int (nI (T e))]) (h' := (xS b, xm_up I 60 5 (nI e), L, xP b)) rfl (show ([.int ((xm_up I 60 5 (nI e)) 64 (nI e).toNatClampNeg)] : List Value) = [.int (nI (T e))] from ?_) rfl ?_
        · simp (disch := omega) only [nI_ltI, nI_leI] at c_46
          rw [xm_up_o (by decide), xn_cl (by omega), hX _ (by omega)]
        refine xw_go xb_136 1 (f1 := (62, [.ref 60], [.int (nI (T e))])) (h1 := (xS b, xm_up I 60 5 (nI e), L, xP b)) rfl trivial ?_
        refine xw_ret xb_136 rfl rfl trivial ?_
        simp (disch := omega) only [nI_leI] at c_46
        rw [if_pos (by omega)]
        exact ⟨rfl, rfl⟩
    · skip
      refine xw_go xb_136 4 (f1 := (19, [.ref 60], [.int ((xm_up I 60 5 (nI e)) 60 5), .ref 64])) (h1 := (xS b, xm_up I 60 5 (nI e), L, xP b)) rfl ⟨rfl, rfl, trivial⟩ ?_
      refine xw_cong (l' := [.ref 60]) (st' := [.int (nI e), .ref 64]) (h' := (xS b, xm_up I 60 5 (nI e), L, xP b)) rfl (show ([.int ((xm_up I 60 5 (nI e)) 60 5), .ref 64] : List Value) = [.int (nI e), .ref 64] from ?_) rfl ?_
      · rw [xm_up_at]
      refine xw_go xb_136 1 (f1 := (20, [.ref 60], [.int ((xm_up I 60 5 (nI e)) 64 (nI e).toNatClampNeg)])) (h1 := (xS b, xm_up I 60 5 (nI e), L, xP b)) rfl ⟨(xn_ar (n := e) (N := 110) rfl (by simp (disch := omega) only [nI_ltI, nI_leI] at c_8; omega) (by decide)), trivial⟩ ?_
      refine xw_cong (l' := [.ref 60]) (st' := [.int (nI (T e))]) (h' := (xS b, xm_up I 60 5 (nI e), L, xP b)) rfl (show ([.int ((xm_up I 60 5 (nI e)) 64 (nI e).toNatClampNeg)] : List Value) = [.int (nI (T e))] from ?_) rfl ?_
      · simp (disch := omega) only [nI_ltI, nI_leI] at c_8
        rw [xm_up_o (by decide), xn_cl (by omega), hX _ (by omega)]
      refine xw_go xb_136 2 (f1 := (if ¬ (nI (T e)) = 32 then 38 else 25, [.ref 60], [])) (h1 := (xS b, xm_up I 60 5 (nI e), L, xP b)) rfl trivial ?_
      refine xw_if (fun c_22 => ?_) (fun c_22 => ?_)
      · skip
        refine xw_go xb_136 2 (f1 := (42, [.ref 60], [.int ((xm_up I 60 5 (nI e)) 60 5)])) (h1 := (xS b, xm_up I 60 5 (nI e), L, xP b)) rfl ⟨rfl, trivial⟩ ?_
        refine xw_cong (l' := [.ref 60]) (st' := [.int (nI e)]) (h' := (xS b, xm_up I 60 5 (nI e), L, xP b)) rfl (show ([.int ((xm_up I 60 5 (nI e)) 60 5)] : List Value) = [.int (nI e)] from ?_) rfl ?_
        · rw [xm_up_at]
        refine xw_go xb_136 2 (f1 := (46, [.ref 60], [.int ((xm_up I 60 5 (nI e)) 60 4), .int (nI e)])) (h1 := (xS b, xm_up I 60 5 (nI e), L, xP b)) rfl ⟨rfl, trivial⟩ ?_
        refine xw_cong (l' := [.ref 60]) (st' := [.int (nI t), .int (nI e)]) (h' := (xS b, xm_up I 60 5 (nI e), L, xP b)) rfl (show ([.int ((xm_up I 60 5 (nI e)) 60 4), .int (nI e)] : List Value) = [.int (nI t), .int (nI e)] from ?_) rfl ?_
        · rw [xm_up_ne (Or.inr (by decide)), h1]
        refine xw_go xb_136 1 (f1 := (if (nI t) ≤ (nI e) then 61 else 49, [.ref 60], [])) (h1 := (xS b, xm_up I 60 5 (nI e), L, xP b)) rfl trivial ?_
        refine xw_if (fun c_46 => ?_) (fun c_46 => ?_)
        · skip
          refine xw_go xb_136 1 (f1 := (62, [.ref 60], [.int 0])) (h1 := (xS b, xm_up I 60 5 (nI e), L, xP b)) rfl trivial ?_
          refine xw_ret xb_136 rfl rfl trivial ?_
          simp (disch := omega) only [nI_leI] at c_46
          rw [if_neg (by omega)]
          exact ⟨rfl, rfl⟩
        · skip
          refine xw_go xb_136 4 (f1 := (57, [.ref 60], [.int ((xm_up I 60 5 (nI e)) 60 5), .ref 64])) (h1 := (xS b, xm_up I 60 5 (nI e), L, xP b)) rfl ⟨rfl, rfl, trivial⟩ ?_
          refine xw_cong (l' := [.ref 60]) (st' := [.int (nI e), .ref 64]) (h' := (xS b, xm_up I 60 5 (nI e), L, xP b)) rfl (show ([.int ((xm_up I 60 5 (nI e)) 60 5), .ref 64] : List Value) = [.int (nI e), .ref 64] from ?_) rfl ?_
          · rw [xm_up_at]
          refine xw_go xb_136 1 (f1 := (58, [.ref 60], [.int ((xm_up I 60 5 (nI e)) 64 (nI e).toNatClampNeg)])) (h1 := (xS b, xm_up I 60 5 (nI e), L, xP b)) rfl ⟨(xn_ar (n := e) (N := 110) rfl (by simp (disch := omega) only [nI_ltI, nI_leI] at c_46; omega) (by decide)), trivial⟩ ?_
          refine xw_cong (l' := [.ref 60]) (st' := [.int (nI (T e))]) (h' := (xS b, xm_up I 60 5 (nI e), L, xP b)) rfl (show ([.int ((xm_up I 60 5 (nI e)) 64 (nI e).toNatClampNeg)] : List Value) = [.int (nI (T e))] from ?_) rfl ?_
          · simp (disch := omega) only [nI_ltI, nI_leI] at c_46
            rw [xm_up_o (by decide), xn_cl (by omega), hX _ (by omega)]
          refine xw_go xb_136 1 (f1 := (62, [.ref 60], [.int (nI (T e))])) (h1 := (xS b, xm_up I 60 5 (nI e), L, xP b)) rfl trivial ?_
          refine xw_ret xb_136 rfl rfl trivial ?_
          simp (disch := omega) only [nI_leI] at c_46
          rw [if_pos (by omega)]
          exact ⟨rfl, rfl⟩
      · skip
        exfalso
        simp (disch := omega) only [nI_ltI, nI_leI] at c_8
        have := te (by omega)
        rw [Classical.not_not, xl_32, nI_eq (by omega) (by omega)] at c_22
        exact se ⟨by omega, c_22⟩

theorem m_soilOf {d : Nat} {b : Bool} {I : Nat → Nat → Int32} {L : Nat → Nat → Int64} {l : Nat} (hl : l ≤ 126) {x : Int32} (e_x : x = nI l) : xm_Z (d + 1) 137 [.int x] (xS b, I, L, xP b) (fun rz hz => rz = some (.int (xsv l)) ∧ hz = (xS b, I, L, xP b)) := by
  subst e_x
  refine xw_S xb_137 (l := [.int (nI l)]) (Nat.le_of_ble_eq_true rfl) rfl ?_
  refine xw_go xb_137 3 (f1 := (if ¬ (nI l) = 103 then 10 else 6, [.int (nI l)], [])) (h1 := (xS b, I, L, xP b)) rfl trivial ?_
  refine xw_if (fun c_3 => ?_) (fun c_3 => ?_)
  · skip
    refine xw_go xb_137 3 (f1 := (if ¬ (nI l) = 99 then 20 else 16, [.int (nI l)], [])) (h1 := (xS b, I, L, xP b)) rfl trivial ?_
    refine xw_if (fun c_13 => ?_) (fun c_13 => ?_)
    · skip
      refine xw_go xb_137 3 (f1 := (if ¬ (nI l) = 112 then 30 else 26, [.int (nI l)], [])) (h1 := (xS b, I, L, xP b)) rfl trivial ?_
      refine xw_if (fun c_23 => ?_) (fun c_23 => ?_)
      · skip
        refine xw_go xb_137 1 (f1 := (31, [.int (nI l)], [.int (-1)])) (h1 := (xS b, I, L, xP b)) rfl trivial ?_
        refine xw_ret xb_137 rfl rfl trivial ?_
        refine ⟨xm_some (congrArg Value.int ?_), rfl⟩
        simp (disch := omega) only [xl_103, xl_99, xl_112, nI_eq, Classical.not_not] at c_3 c_13 c_23
        unfold xsv xsc
        simp only [c_3, c_13, c_23, if_false]
        rfl
      · skip
        refine xw_go xb_137 2 (f1 := (31, [.int (nI l)], [.int 2])) (h1 := (xS b, I, L, xP b)) rfl trivial ?_
        refine xw_ret xb_137 rfl rfl trivial ?_
        refine ⟨xm_some (congrArg Value.int ?_), rfl⟩
        simp (disch := omega) only [xl_103, xl_99, xl_112, nI_eq, Classical.not_not] at c_3 c_13 c_23
        unfold xsv xsc
        rw [c_23]
        rfl
    · skip
      refine xw_go xb_137 2 (f1 := (31, [.int (nI l)], [.int 1])) (h1 := (xS b, I, L, xP b)) rfl trivial ?_
      refine xw_ret xb_137 rfl rfl trivial ?_
      refine ⟨xm_some (congrArg Value.int ?_), rfl⟩
      simp (disch := omega) only [xl_103, xl_99, xl_112, nI_eq, Classical.not_not] at c_3 c_13
      unfold xsv xsc
      rw [c_13]
      rfl
  · skip
    refine xw_go xb_137 2 (f1 := (31, [.int (nI l)], [.int 0])) (h1 := (xS b, I, L, xP b)) rfl trivial ?_
    refine xw_ret xb_137 rfl rfl trivial ?_
    refine ⟨xm_some (congrArg Value.int ?_), rfl⟩
    simp (disch := omega) only [xl_103, xl_99, xl_112, nI_eq, Classical.not_not] at c_3
    unfold xsv xsc
    rw [c_3]
    rfl

theorem m_must1 {d : Nat} {b : Bool} {I : Nat → Nat → Int32} {L : Nat → Nat → Int64} {a : Nat} (h6 : I 60 6 = 0) (h5 : I 60 5 = nI a) {x : Int32} (e_x : x = 1) : xm_Z (d + 1) 138 [.ref 60, .int x] (xS b, I, L, xP b) (fun rz hz => rz = none ∧ hz = (xS b, xm_up I 60 5 (nI (a + 1)), L, xP b)) := by
  subst e_x
  refine xw_S xb_138 (l := [.ref 60, .int 1]) (Nat.le_of_ble_eq_true rfl) rfl ?_
  refine xw_go xb_138 3 (f1 := (5, [.ref 60, .int 1], [.int (I 60 6), .ref 60])) (h1 := (xS b, I, L, xP b)) rfl ⟨rfl, trivial⟩ ?_
  refine xw_cong (l' := [.ref 60, .int 1]) (st' := [.int 0, .ref 60]) (h' := (xS b, I, L, xP b)) rfl (show ([.int (I 60 6), .ref 60] : List Value) = [.int 0, .ref 60] from ?_) rfl ?_
  · rw [h6]
  refine xw_go xb_138 5 (f1 := (20, [.ref 60, .int 1], [])) (h1 := (xS b, xm_up I 60 6 0, L, xP b)) rfl ⟨rfl, (Or.inl rfl), trivial⟩ ?_
  refine xw_at (f' := (20, [.ref 60, .int 1], [])) (h' := (xS b, I, L, xP b)) rfl (show (xS b, xm_up I 60 6 0, L, xP b) = (xS b, I, L, xP b) from ?_) ?_
  · rw [xup_me h6]
  refine xw_go xb_138 3 (f1 := (25, [.ref 60, .int 1], [.int (I 60 5), .ref 60])) (h1 := (xS b, I, L, xP b)) rfl ⟨rfl, trivial⟩ ?_
  refine xw_cong (l' := [.ref 60, .int 1]) (st' := [.int (nI a), .ref 60]) (h' := (xS b, I, L, xP b)) rfl (show ([.int (I 60 5), .ref 60] : List Value) = [.int (nI a), .ref 60] from ?_) rfl ?_
  · rw [h5]
  refine xw_go xb_138 2 (f1 := (29, [.ref 60, .int 1], [.int (I 60 6), .int (nI a), .ref 60])) (h1 := (xS b, I, L, xP b)) rfl ⟨rfl, trivial⟩ ?_
  refine xw_cong (l' := [.ref 60, .int 1]) (st' := [.int 0, .int (nI a), .ref 60]) (h' := (xS b, I, L, xP b)) rfl (show ([.int (I 60 6), .int (nI a), .ref 60] : List Value) = [.int 0, .int (nI a), .ref 60] from ?_) rfl ?_
  · rw [h6]
  refine xw_go xb_138 4 (f1 := (41, [.ref 60, .int 1], [])) (h1 := (xS b, xm_up I 60 5 ((nI a) + 1), L, xP b)) rfl ⟨rfl, trivial⟩ ?_
  refine xw_ret xb_138 rfl rfl trivial ?_
  rw [nI_1]
  exact ⟨rfl, rfl⟩

theorem m_must0 {d : Nat} {b : Bool} {I : Nat → Nat → Int32} {L : Nat → Nat → Int64} {a : Nat} (h6 : I 60 6 = 0) (h5 : I 60 5 = nI a) {x : Int32} (e_x : x = 0) : xm_Z (d + 1) 138 [.ref 60, .int x] (xS b, I, L, xP b) (fun rz hz => rz = none ∧ hz = (xS b, xm_up I 60 6 1, L, xP b)) := by
  subst e_x
  refine xw_S xb_138 (l := [.ref 60, .int 0]) (Nat.le_of_ble_eq_true rfl) rfl ?_
  refine xw_go xb_138 3 (f1 := (5, [.ref 60, .int 0], [.int (I 60 6), .ref 60])) (h1 := (xS b, I, L, xP b)) rfl ⟨rfl, trivial⟩ ?_
  refine xw_cong (l' := [.ref 60, .int 0]) (st' := [.int 0, .ref 60]) (h' := (xS b, I, L, xP b)) rfl (show ([.int (I 60 6), .ref 60] : List Value) = [.int 0, .ref 60] from ?_) rfl ?_
  · rw [h6]
  refine xw_go xb_138 11 (f1 := (29, [.ref 60, .int 0], [.int ((xm_up I 60 6 1) 60 6), .int ((xm_up I 60 6 1) 60 5), .ref 60])) (h1 := (xS b, xm_up I 60 6 1, L, xP b)) rfl ⟨rfl, (Or.inr rfl), rfl, rfl, trivial⟩ ?_
  refine xw_cong (l' := [.ref 60, .int 0]) (st' := [.int 1, .int ((xm_up I 60 6 1) 60 5), .ref 60]) (h' := (xS b, xm_up I 60 6 1, L, xP b)) rfl (show ([.int ((xm_up I 60 6 1) 60 6), .int ((xm_up I 60 6 1) 60 5), .ref 60] : List Value) = [.int 1, .int ((xm_up I 60 6 1) 60 5), .ref 60] from ?_) rfl ?_
  · rw [xm_up_at]
  refine xw_go xb_138 5 (f1 := (41, [.ref 60, .int 0], [])) (h1 := (xS b, xm_up (xm_up I 60 6 1) 60 5 (((xm_up I 60 6 1) 60 5) + 0), L, xP b)) rfl ⟨rfl, trivial⟩ ?_
  refine xw_at (f' := (41, [.ref 60, .int 0], [])) (h' := (xS b, xm_up I 60 6 1, L, xP b)) rfl (show (xS b, xm_up (xm_up I 60 6 1) 60 5 (((xm_up I 60 6 1) 60 5) + 0), L, xP b) = (xS b, xm_up I 60 6 1, L, xP b) from ?_) ?_
  · rw [xm_up_ne (Or.inr (by decide)), h5, show nI a + 0 = nI a from by rw [xl_0, nI_add, Nat.add_zero], xup_me (by rw [xm_up_ne (Or.inr (by decide)), h5])]
  refine xw_ret xb_138 rfl rfl trivial ?_
  exact ⟨rfl, rfl⟩

theorem m_mustF {d : Nat} {b : Bool} {I : Nat → Nat → Int32} {L : Nat → Nat → Int64} {a : Nat} {x : Int32} (h6 : I 60 6 = 1) (h5 : I 60 5 = nI a) : xm_Z (d + 1) 138 [.ref 60, .int x] (xS b, I, L, xP b) (fun rz hz => rz = none ∧ hz = (xS b, I, L, xP b)) := by
  refine xw_S xb_138 (l := [.ref 60, .int x]) (Nat.le_of_ble_eq_true rfl) rfl ?_
  refine xw_go xb_138 3 (f1 := (5, [.ref 60, .int x], [.int (I 60 6), .ref 60])) (h1 := (xS b, I, L, xP b)) rfl ⟨rfl, trivial⟩ ?_
  refine xw_cong (l' := [.ref 60, .int x]) (st' := [.int 1, .ref 60]) (h' := (xS b, I, L, xP b)) rfl (show ([.int (I 60 6), .ref 60] : List Value) = [.int 1, .ref 60] from ?_) rfl ?_
  · rw [h6]
  refine xw_go xb_138 4 (f1 := (20, [.ref 60, .int x], [])) (h1 := (xS b, xm_up I 60 6 1, L, xP b)) rfl ⟨rfl, (Or.inr rfl), trivial⟩ ?_
  refine xw_at (f' := (20, [.ref 60, .int x], [])) (h' := (xS b, I, L, xP b)) rfl (show (xS b, xm_up I 60 6 1, L, xP b) = (xS b, I, L, xP b) from ?_) ?_
  · rw [xup_me h6]
  refine xw_go xb_138 5 (f1 := (29, [.ref 60, .int x], [.int (I 60 6), .int (I 60 5), .ref 60])) (h1 := (xS b, I, L, xP b)) rfl ⟨rfl, rfl, trivial⟩ ?_
  refine xw_cong (l' := [.ref 60, .int x]) (st' := [.int 1, .int (I 60 5), .ref 60]) (h' := (xS b, I, L, xP b)) rfl (show ([.int (I 60 6), .int (I 60 5), .ref 60] : List Value) = [.int 1, .int (I 60 5), .ref 60] from ?_) rfl ?_
  · rw [h6]
  refine xw_go xb_138 5 (f1 := (41, [.ref 60, .int x], [])) (h1 := (xS b, xm_up I 60 5 ((I 60 5) + 0), L, xP b)) rfl ⟨rfl, trivial⟩ ?_
  refine xw_at (f' := (41, [.ref 60, .int x], [])) (h' := (xS b, I, L, xP b)) rfl (show (xS b, xm_up I 60 5 ((I 60 5) + 0), L, xP b) = (xS b, I, L, xP b) from ?_) ?_
  · rw [h5, show nI a + 0 = nI a from by rw [xl_0, nI_add, Nat.add_zero], xup_me h5]
  refine xw_ret xb_138 rfl rfl trivial ?_
  exact ⟨rfl, rfl⟩

theorem m_digit1 {d : Nat} {b : Bool} {I : Nat → Nat → Int32} {L : Nat → Nat → Int64} {T : Nat → Nat} {t : Nat} (hR : xMR T t I) {a lo hi : Nat} (h6 : I 60 6 = 0) (ha : I 60 5 = nI a) (al : a ≤ t) (bl : lo < 1000) (bh : hi < 1000) (hd : 48 + lo ≤ xlt T t a ∧ xlt T t a ≤ 48 + hi) {x : Int32} (e_x : x = nI lo) {y : Int32} (e_y : y = nI hi) : xm_Z (d + 2) 140 [.ref 60, .int x, .int y] (xS b, I, L, xP b) (fun rz hz => rz = some (.int (nI (xlt T t a - 48))) ∧ hz = (xS b, xm_up I 60 5 (nI (xsk T t a + 1)), L, xP b)) := by
  subst e_x
  subst e_y
  refine xw_S xb_140 (l := [.ref 60, .int (nI lo), .int (nI hi), .float 0]) (Nat.le_of_ble_eq_true rfl) rfl ?_
  refine xw_go xb_140 2 (f1 := (4, [.ref 60, .int (nI lo), .int (nI hi), .float 0], [.int (I 60 6)])) (h1 := (xS b, I, L, xP b)) rfl ⟨rfl, trivial⟩ ?_
  refine xw_cong (l' := [.ref 60, .int (nI lo), .int (nI hi), .float 0]) (st' := [.int 0]) (h' := (xS b, I, L, xP b)) rfl (show ([.int (I 60 6)] : List Value) = [.int 0] from ?_) rfl ?_
  · rw [h6]
  refine xw_go xb_140 2 (f1 := (12, [.ref 60, .int (nI lo), .int (nI hi), .float 0], [.ref 60])) (h1 := (xS b, I, L, xP b)) rfl trivial ?_
  refine xw_call xb_140 rfl rfl rfl rfl rfl (Or.inr ⟨_, _, rfl, rfl⟩) (m_here (I := I) (a := a) hR ha al) ?_
  rintro _ _ ⟨rfl, rfl⟩
  refine xw_at (f' := (15, [.ref 60, .int (nI lo), .int (nI hi), .float 0], [.int (nI (xlt T t a))])) (h' := (xS b, xm_up I 60 5 (nI (xsk T t a)), L, xP b)) rfl rfl ?_
  refine xw_go xb_140 10 (f1 := (26, [.ref 60, .int (nI lo), .int (nI hi), .int ((nI (xlt T t a)) - 48)], [.long ((nI hi).toInt64), .long ((nI lo).toInt64), .long (((nI (xlt T t a)) - 48).toInt64), .ref 60])) (h1 := (xS b, xm_up I 60 5 (nI (xsk T t a)), L, xP b)) rfl trivial ?_
  refine xw_call xb_140 rfl rfl rfl rfl rfl (Or.inl rfl) m_in ?_
  rintro _ _ ⟨rfl, rfl⟩
  refine xw_at (f' := (29, [.ref 60, .int (nI lo), .int (nI hi), .int ((nI (xlt T t a)) - 48)], [.int (nI (xB (decide ((nI lo).toInt64.toInt ≤ (nI (xlt T t a) - 48).toInt64.toInt ∧ (nI (xlt T t a) - 48).toInt64.toInt ≤ (nI hi).toInt64.toInt)))), .ref 60])) (h' := (xS b, xm_up I 60 5 (nI (xsk T t a)), L, xP b)) rfl rfl ?_
  refine xw_cong (l' := [.ref 60, .int (nI lo), .int (nI hi), .int ((nI (xlt T t a)) - 48)]) (st' := [.int 1, .ref 60]) (h' := (xS b, xm_up I 60 5 (nI (xsk T t a)), L, xP b)) rfl (show ([.int (nI (xB (decide ((nI lo).toInt64.toInt ≤ (nI (xlt T t a) - 48).toInt64.toInt ∧ (nI (xlt T t a) - 48).toInt64.toInt ≤ (nI hi).toInt64.toInt)))), .ref 60] : List Value) = [.int 1, .ref 60] from ?_) rfl ?_
  · rw [decide_eq_true ((xdgM (xlt_le hR.2.1) bl bh).mpr hd)]
    rfl
  refine xw_call xb_140 rfl rfl rfl rfl rfl (Or.inr ⟨_, _, rfl, rfl⟩) (m_must1 (I := (xm_up I 60 5 (nI (xsk T t a)))) (a := xsk T t a) (by rw [xm_up_ne (Or.inr (by decide))]; exact h6) (xm_up_at _ _ _ _) rfl) ?_
  rintro _ _ ⟨rfl, rfl⟩
  refine xw_at (f' := (32, [.ref 60, .int (nI lo), .int (nI hi), .int ((nI (xlt T t a)) - 48)], [])) (h' := (xS b, xm_up (xm_up I 60 5 (nI (xsk T t a))) 60 5 (nI (xsk T t a + 1)), L, xP b)) rfl rfl ?_
  refine xw_go xb_140 1 (f1 := (33, [.ref 60, .int (nI lo), .int (nI hi), .int ((nI (xlt T t a)) - 48)], [.int ((nI (xlt T t a)) - 48)])) (h1 := (xS b, xm_up (xm_up I 60 5 (nI (xsk T t a))) 60 5 (nI (xsk T t a + 1)), L, xP b)) rfl trivial ?_
  refine xw_ret xb_140 rfl rfl trivial ?_
  rw [xup_2, xl_48, xn_sub (by omega)]
  exact ⟨rfl, rfl⟩

theorem m_digit0 {d : Nat} {b : Bool} {I : Nat → Nat → Int32} {L : Nat → Nat → Int64} {T : Nat → Nat} {t : Nat} (hR : xMR T t I) {a lo hi : Nat} (h6 : I 60 6 = 0) (ha : I 60 5 = nI a) (al : a ≤ t) (bl : lo < 1000) (bh : hi < 1000) (hd : ¬ (48 + lo ≤ xlt T t a ∧ xlt T t a ≤ 48 + hi)) {x : Int32} (e_x : x = nI lo) {y : Int32} (e_y : y = nI hi) : xm_Z (d + 2) 140 [.ref 60, .int x, .int y] (xS b, I, L, xP b) (fun rz hz => rz = some (.int (nI (xlt T t a) - 48)) ∧ hz = (xS b, xm_up (xm_up I 60 5 (nI (xsk T t a))) 60 6 1, L, xP b)) := by
  subst e_x
  subst e_y
  refine xw_S xb_140 (l := [.ref 60, .int (nI lo), .int (nI hi), .float 0]) (Nat.le_of_ble_eq_true rfl) rfl ?_
  refine xw_go xb_140 2 (f1 := (4, [.ref 60, .int (nI lo), .int (nI hi), .float 0], [.int (I 60 6)])) (h1 := (xS b, I, L, xP b)) rfl ⟨rfl, trivial⟩ ?_
  refine xw_cong (l' := [.ref 60, .int (nI lo), .int (nI hi), .float 0]) (st' := [.int 0]) (h' := (xS b, I, L, xP b)) rfl (show ([.int (I 60 6)] : List Value) = [.int 0] from ?_) rfl ?_
  · rw [h6]
  refine xw_go xb_140 2 (f1 := (12, [.ref 60, .int (nI lo), .int (nI hi), .float 0], [.ref 60])) (h1 := (xS b, I, L, xP b)) rfl trivial ?_
  refine xw_call xb_140 rfl rfl rfl rfl rfl (Or.inr ⟨_, _, rfl, rfl⟩) (m_here (I := I) (a := a) hR ha al) ?_
  rintro _ _ ⟨rfl, rfl⟩
  refine xw_at (f' := (15, [.ref 60, .int (nI lo), .int (nI hi), .float 0], [.int (nI (xlt T t a))])) (h' := (xS b, xm_up I 60 5 (nI (xsk T t a)), L, xP b)) rfl rfl ?_
  refine xw_go xb_140 10 (f1 := (26, [.ref 60, .int (nI lo), .int (nI hi), .int ((nI (xlt T t a)) - 48)], [.long ((nI hi).toInt64), .long ((nI lo).toInt64), .long (((nI (xlt T t a)) - 48).toInt64), .ref 60])) (h1 := (xS b, xm_up I 60 5 (nI (xsk T t a)), L, xP b)) rfl trivial ?_
  refine xw_call xb_140 rfl rfl rfl rfl rfl (Or.inl rfl) m_in ?_
  rintro _ _ ⟨rfl, rfl⟩
  refine xw_at (f' := (29, [.ref 60, .int (nI lo), .int (nI hi), .int ((nI (xlt T t a)) - 48)], [.int (nI (xB (decide ((nI lo).toInt64.toInt ≤ (nI (xlt T t a) - 48).toInt64.toInt ∧ (nI (xlt T t a) - 48).toInt64.toInt ≤ (nI hi).toInt64.toInt)))), .ref 60])) (h' := (xS b, xm_up I 60 5 (nI (xsk T t a)), L, xP b)) rfl rfl ?_
  refine xw_cong (l' := [.ref 60, .int (nI lo), .int (nI hi), .int ((nI (xlt T t a)) - 48)]) (st' := [.int 0, .ref 60]) (h' := (xS b, xm_up I 60 5 (nI (xsk T t a)), L, xP b)) rfl (show ([.int (nI (xB (decide ((nI lo).toInt64.toInt ≤ (nI (xlt T t a) - 48).toInt64.toInt ∧ (nI (xlt T t a) - 48).toInt64.toInt ≤ (nI hi).toInt64.toInt)))), .ref 60] : List Value) = [.int 0, .ref 60] from ?_) rfl ?_
  · rw [decide_eq_false (fun q => hd ((xdgM (xlt_le hR.2.1) bl bh).mp q))]
    rfl
  refine xw_call xb_140 rfl rfl rfl rfl rfl (Or.inr ⟨_, _, rfl, rfl⟩) (m_must0 (I := (xm_up I 60 5 (nI (xsk T t a)))) (a := xsk T t a) (by rw [xm_up_ne (Or.inr (by decide))]; exact h6) (xm_up_at _ _ _ _) rfl) ?_
  rintro _ _ ⟨rfl, rfl⟩
  refine xw_at (f' := (32, [.ref 60, .int (nI lo), .int (nI hi), .int ((nI (xlt T t a)) - 48)], [])) (h' := (xS b, xm_up (xm_up I 60 5 (nI (xsk T t a))) 60 6 1, L, xP b)) rfl rfl ?_
  refine xw_go xb_140 1 (f1 := (33, [.ref 60, .int (nI lo), .int (nI hi), .int ((nI (xlt T t a)) - 48)], [.int ((nI (xlt T t a)) - 48)])) (h1 := (xS b, xm_up (xm_up I 60 5 (nI (xsk T t a))) 60 6 1, L, xP b)) rfl trivial ?_
  refine xw_ret xb_140 rfl rfl trivial ?_
  exact ⟨rfl, rfl⟩

theorem m_digitF {d : Nat} {b : Bool} {I : Nat → Nat → Int32} {L : Nat → Nat → Int64} {a : Nat} {x y : Int32} (h6 : I 60 6 = 1) (ha : I 60 5 = nI a) : xm_Z (d + 2) 140 [.ref 60, .int x, .int y] (xS b, I, L, xP b) (fun rz hz => rz = some (.int (-1)) ∧ hz = (xS b, I, L, xP b)) := by
  refine xw_S xb_140 (l := [.ref 60, .int x, .int y, .float 0]) (Nat.le_of_ble_eq_true rfl) rfl ?_
  refine xw_go xb_140 2 (f1 := (4, [.ref 60, .int x, .int y, .float 0], [.int (I 60 6)])) (h1 := (xS b, I, L, xP b)) rfl ⟨rfl, trivial⟩ ?_
  refine xw_cong (l' := [.ref 60, .int x, .int y, .float 0]) (st' := [.int 1]) (h' := (xS b, I, L, xP b)) rfl (show ([.int (I 60 6)] : List Value) = [.int 1] from ?_) rfl ?_
  · rw [h6]
  refine xw_go xb_140 11 (f1 := (26, [.ref 60, .int x, .int y, .int (-1)], [.long y.toInt64, .long x.toInt64, .long ((-1 : Int32).toInt64), .ref 60])) (h1 := (xS b, I, L, xP b)) rfl trivial ?_
  refine xw_call xb_140 rfl rfl rfl rfl rfl (Or.inl rfl) m_in ?_
  rintro _ _ ⟨rfl, rfl⟩
  refine xw_at (f' := (29, [.ref 60, .int x, .int y, .int (-1)], [.int (nI (xB (decide (x.toInt64.toInt ≤ (-1 : Int32).toInt64.toInt ∧ (-1 : Int32).toInt64.toInt ≤ y.toInt64.toInt)))), .ref 60])) (h' := (xS b, I, L, xP b)) rfl rfl ?_
  refine xw_call xb_140 rfl rfl rfl rfl rfl (Or.inr ⟨_, _, rfl, rfl⟩) (m_mustF (I := I) h6 ha) ?_
  rintro _ _ ⟨rfl, rfl⟩
  refine xw_at (f' := (32, [.ref 60, .int x, .int y, .int (-1)], [])) (h' := (xS b, I, L, xP b)) rfl rfl ?_
  refine xw_go xb_140 1 (f1 := (33, [.ref 60, .int x, .int y, .int (-1)], [.int (-1)])) (h1 := (xS b, I, L, xP b)) rfl trivial ?_
  refine xw_ret xb_140 rfl rfl trivial ?_
  exact ⟨rfl, rfl⟩

theorem m_row1G {d : Nat} {b : Bool} {I : Nat → Nat → Int32} {L : Nat → Nat → Int64} {T : Nat → Nat} {t : Nat} (hR : xMR T t I) {z c p a n : Nat} (h6 : I 60 6 = 0) (h5 : I 60 5 = nI a) (ha : a ≤ t) (hp : xsk T t a = xsk T t p) (hp2 : p ≤ t) (hz : z + 8 ≤ 64) (hn : n = xld (xfr9 T t p) 8) (hg : 2 ≤ n) {x1 : Int32} (e_x1 : x1 = nI z) {x2 : Int32} (e_x2 : x2 = 0) : xm_Z (d + 3) 135 [.ref 60, .int x1, .int x2] (xS b, I, L, xP b) (fun rz hz => rz = some (.int (nI n)) ∧ ∃ I' a, hz = (xS b, I', L, xP b) ∧ (∀ q, q ≠ 60 → q ≠ 65 → I' q = I q) ∧ (∀ j, j ≠ 5 → I' 60 j = I 60 j) ∧ I' 60 5 = nI a ∧ xsk T t a = xsk T t (xrp T t p n) ∧ a ≤ t ∧ (∀ j, j < n → I' 65 (z + j) = nI (xsc (xlt T t (xrp T t p j)))) ∧ ∀ j, j < z → I' 65 j = I 65 j) := by
  subst e_x1
  subst e_x2
  have nl : n ≤ 8 := by rw [hn]; exact xld_le _ _
  have nt : ∀ j, j < n → xfr9 T t p j = true := fun j hj => xld_t 8 j (by rw [← hn]; exact hj)
  have nf : n < 8 → xfr9 T t p n = false := fun q => by rw [hn]; exact xld_f 8 (by rw [← hn]; exact q)
  refine xw_S xb_135 (l := [.ref 60, .int (nI z), .int 0, .float 0, .float 0, .float 0]) (Nat.le_of_ble_eq_true rfl) rfl ?_
  refine xw_go xb_135 4 (f1 := (5, [.ref 60, .int (nI z), .int 0, .int 0, .int 1, .float 0], [])) (h1 := (xS b, I, L, xP b)) rfl trivial ?_
  refine xw_cong (l' := [.ref 60, .int (nI z), .int 0, .int (nI 0), .int 1, .float 0]) (st' := []) (h' := (xS b, I, L, xP b)) (show ([.ref 60, .int (nI z), .int 0, .int 0, .int 1, .float 0] : List Value) = [.ref 60, .int (nI z), .int 0, .int (nI 0), .int 1, .float 0] from ?_) rfl rfl ?_
  · rfl
  refine xw_cong (l' := [.ref 60, .int (nI z), .int 0, .int (nI 0), .int (nI (xB (decide (0 < n)))), .float 0]) (st' := []) (h' := (xS b, I, L, xP b)) (show ([.ref 60, .int (nI z), .int 0, .int (nI 0), .int 1, .float 0] : List Value) = [.ref 60, .int (nI z), .int 0, .int (nI 0), .int (nI (xB (decide (0 < n)))), .float 0] from ?_) rfl rfl ?_
  · rw [decide_eq_true (show 0 < n by omega)]
    rfl
  refine xw_loopP n (fun k => (5, [.ref 60, .int (nI z), .int 0, .int (nI k), .int (nI (xB (decide (k < n)))), .float 0], [])) (fun k h => ∃ J a, h = (xS b, J, L, xP b) ∧ (∀ q, q ≠ 60 → q ≠ 65 → J q = I q) ∧ (∀ j, j ≠ 5 → J 60 j = I 60 j) ∧ J 60 5 = nI a ∧ xsk T t a = xsk T t (xrp T t p k) ∧ a ≤ t ∧ (∀ j, j < k → J 65 (z + j) = nI (xsc (xlt T t (xrp T t p j)))) ∧ ∀ j, j < z → J 65 j = I 65 j) (fun k h hk hV ih => ?_) (fun h hV => ?_) 0 _ (Nat.zero_le _) ⟨I, a, rfl, fun _ _ _ => rfl, fun _ _ => rfl, h5, hp, ha, fun j hj => absurd hj (Nat.not_lt_zero j), fun _ _ => rfl⟩
  · obtain ⟨J, a, rfl, j1, j2, j3, j4, j5, j6, j7⟩ := hV
    have r1 : xMR T t J := xMR_fr hR (j2 4 (by decide)) (j1 64 (by decide) (by decide))
    have g6 : J 60 6 = 0 := by rw [j2 6 (by decide)]; exact h6
    have fk : xfr9 T t p k = true := nt k hk
    have fc := of_decide_eq_true fk
    have rl : xrp T t p (k + 1) ≤ t := xrp_le hp2 nt (k + 1) (by omega)
    have hkl : k < 8 := Nat.lt_of_lt_of_le hk nl
    refine xw_go xb_135 2 (f1 := (9, [.ref 60, .int (nI z), .int 0, .int (nI k), .int (nI (xB (decide (k < n)))), .float 0], [.int (J 60 6)])) (h1 := (xS b, J, L, xP b)) rfl ⟨rfl, trivial⟩ ?_
    refine xw_cong (l' := [.ref 60, .int (nI z), .int 0, .int (nI k), .int (nI (xB (decide (k < n)))), .float 0]) (st' := [.int 0]) (h' := (xS b, J, L, xP b)) rfl (show ([.int (J 60 6)] : List Value) = [.int 0] from ?_) rfl ?_
    · rw [g6]
    refine xw_go xb_135 2 (f1 := (14, [.ref 60, .int (nI z), .int 0, .int (nI k), .int (nI (xB (decide (k < n)))), .float 0], [.int (nI (xB (decide (k < n))))])) (h1 := (xS b, J, L, xP b)) rfl trivial ?_
    refine xw_cong (l' := [.ref 60, .int (nI z), .int 0, .int (nI k), .int (nI (xB (decide (k < n)))), .float 0]) (st' := [.int 1]) (h' := (xS b, J, L, xP b)) rfl (show ([.int (nI (xB (decide (k < n))))] : List Value) = [.int 1] from ?_) rfl ?_
    · rw [decide_eq_true hk]
      rfl
    refine xw_go xb_135 2 (f1 := (18, [.ref 60, .int (nI z), .int 0, .int (nI k), .int (nI (xB (decide (k < n)))), .float 0], [.ref 60])) (h1 := (xS b, J, L, xP b)) rfl trivial ?_
    refine xw_call xb_135 rfl rfl rfl rfl rfl (Or.inr ⟨_, _, rfl, rfl⟩) (m_here (I := J) (a := a) r1 j3 j5) ?_
    rintro _ _ ⟨rfl, rfl⟩
    refine xw_at (f' := (21, [.ref 60, .int (nI z), .int 0, .int (nI k), .int (nI (xB (decide (k < n)))), .float 0], [.int (nI (xlt T t a))])) (h' := (xS b, xm_up J 60 5 (nI (xsk T t a)), L, xP b)) rfl rfl ?_
    refine xw_cong (l' := [.ref 60, .int (nI z), .int 0, .int (nI k), .int (nI (xB (decide (k < n)))), .float 0]) (st' := [.int (nI (xlt T t (xrp T t p k)))]) (h' := (xS b, xm_up J 60 5 (nI (xsk T t a)), L, xP b)) rfl (show ([.int (nI (xlt T t a))] : List Value) = [.int (nI (xlt T t (xrp T t p k)))] from ?_) rfl ?_
    · rw [xlt_c j4]
    refine xw_at (f' := (21, [.ref 60, .int (nI z), .int 0, .int (nI k), .int (nI (xB (decide (k < n)))), .float 0], [.int (nI (xlt T t (xrp T t p k)))])) (h' := (xS b, xm_up J 60 5 (nI (xsk T t (xrp T t p k))), L, xP b)) rfl (show (xS b, xm_up J 60 5 (nI (xsk T t a)), L, xP b) = (xS b, xm_up J 60 5 (nI (xsk T t (xrp T t p k))), L, xP b) from ?_) ?_
    · rw [j4]
    refine xw_call xb_135 rfl rfl rfl rfl rfl (Or.inl rfl) (m_soilOf (l := (xlt T t (xrp T t p k))) (xlt_le hR.2.1) rfl) ?_
    rintro _ _ ⟨rfl, rfl⟩
    refine xw_at (f' := (24, [.ref 60, .int (nI z), .int 0, .int (nI k), .int (nI (xB (decide (k < n)))), .float 0], [.int (xsv (xlt T t (xrp T t p k)))])) (h' := (xS b, xm_up J 60 5 (nI (xsk T t (xrp T t p k))), L, xP b)) rfl rfl ?_
    refine xw_cong (l' := [.ref 60, .int (nI z), .int 0, .int (nI k), .int (nI (xB (decide (k < n)))), .float 0]) (st' := [.int (nI (xsc (xlt T t (xrp T t p k))))]) (h' := (xS b, xm_up J 60 5 (nI (xsk T t (xrp T t p k))), L, xP b)) rfl (show ([.int (xsv (xlt T t (xrp T t p k)))] : List Value) = [.int (nI (xsc (xlt T t (xrp T t p k))))] from ?_) rfl ?_
    · unfold xsv
      rw [if_pos fc]
    refine xw_go xb_135 4 (f1 := (if (nI (xsc (xlt T t (xrp T t p k)))) < 0 then 36 else 32, [.ref 60, .int (nI z), .int 0, .int (nI k), .int (nI (xB (decide (k < n)))), .int (nI (xsc (xlt T t (xrp T t p k))))], [.ref 60])) (h1 := (xS b, xm_up J 60 5 (nI (xsk T t (xrp T t p k))), L, xP b)) rfl trivial ?_
    refine xw_if (fun c_29 => ?_) (fun c_29 => ?_)
    · skip
      exfalso
      rw [xl_0, nI_ltI (by omega) (by omega)] at c_29
      omega
    · skip
      refine xw_go xb_135 2 (f1 := (37, [.ref 60, .int (nI z), .int 0, .int (nI k), .int (nI (xB (decide (k < n)))), .int (nI (xsc (xlt T t (xrp T t p k))))], [.int 1, .ref 60])) (h1 := (xS b, xm_up J 60 5 (nI (xsk T t (xrp T t p k))), L, xP b)) rfl trivial ?_
      refine xw_call xb_135 rfl rfl rfl rfl rfl (Or.inr ⟨_, _, rfl, rfl⟩) (m_must1 (I := (xm_up J 60 5 (nI (xsk T t (xrp T t p k))))) (a := xsk T t (xrp T t p k)) (by rw [xm_up_ne (Or.inr (by decide))]; exact g6) (xm_up_at _ _ _ _) rfl) ?_
      rintro _ _ ⟨rfl, rfl⟩
      refine xw_at (f' := (40, [.ref 60, .int (nI z), .int 0, .int (nI k), .int (nI (xB (decide (k < n)))), .int (nI (xsc (xlt T t (xrp T t p k))))], [])) (h' := (xS b, xm_up (xm_up J 60 5 (nI (xsk T t (xrp T t p k)))) 60 5 (nI (xsk T t (xrp T t p k) + 1)), L, xP b)) rfl rfl ?_
      refine xw_at (f' := (40, [.ref 60, .int (nI z), .int 0, .int (nI k), .int (nI (xB (decide (k < n)))), .int (nI (xsc (xlt T t (xrp T t p k))))], [])) (h' := (xS b, xm_up J 60 5 (nI (xrp T t p (k + 1))), L, xP b)) rfl (show (xS b, xm_up (xm_up J 60 5 (nI (xsk T t (xrp T t p k)))) 60 5 (nI (xsk T t (xrp T t p k) + 1)), L, xP b) = (xS b, xm_up J 60 5 (nI (xrp T t p (k + 1))), L, xP b) from ?_) ?_
      · rw [xup_2]
        rfl
      refine xw_go xb_135 2 (f1 := (44, [.ref 60, .int (nI z), .int 0, .int (nI k), .int (nI (xB (decide (k < n)))), .int (nI (xsc (xlt T t (xrp T t p k))))], [.int ((xm_up J 60 5 (nI (xrp T t p (k + 1)))) 60 6)])) (h1 := (xS b, xm_up J 60 5 (nI (xrp T t p (k + 1))), L, xP b)) rfl ⟨rfl, trivial⟩ ?_
      refine xw_cong (l' := [.ref 60, .int (nI z), .int 0, .int (nI k), .int (nI (xB (decide (k < n)))), .int (nI (xsc (xlt T t (xrp T t p k))))]) (st' := [.int 0]) (h' := (xS b, xm_up J 60 5 (nI (xrp T t p (k + 1))), L, xP b)) rfl (show ([.int ((xm_up J 60 5 (nI (xrp T t p (k + 1)))) 60 6)] : List Value) = [.int 0] from ?_) rfl ?_
      · rw [xm_up_ne (Or.inr (by decide)), g6]
      refine xw_go xb_135 6 (f1 := (54, [.ref 60, .int (nI z), .int 0, .int (nI k), .int (nI (xB (decide (k < n)))), .int (nI (xsc (xlt T t (xrp T t p k))))], [.int ((nI z) + (nI k)), .ref 65])) (h1 := (xS b, xm_up J 60 5 (nI (xrp T t p (k + 1))), L, xP b)) rfl ⟨rfl, trivial⟩ ?_
      refine xw_cong (l' := [.ref 60, .int (nI z), .int 0, .int (nI k), .int (nI (xB (decide (k < n)))), .int (nI (xsc (xlt T t (xrp T t p k))))]) (st' := [.int (nI (z + k)), .ref 65]) (h' := (xS b, xm_up J 60 5 (nI (xrp T t p (k + 1))), L, xP b)) rfl (show ([.int ((nI z) + (nI k)), .ref 65] : List Value) = [.int (nI (z + k)), .ref 65] from ?_) rfl ?_
      · rw [nI_add]
      refine xw_go xb_135 2 (f1 := (57, [.ref 60, .int (nI z), .int 0, .int (nI k), .int (nI (xB (decide (k < n)))), .int (nI (xsc (xlt T t (xrp T t p k))))], [])) (h1 := (xS b, xm_up (xm_up J 60 5 (nI (xrp T t p (k + 1)))) 65 (nI (z + k)).toNatClampNeg (nI (xsc (xlt T t (xrp T t p k)))), L, xP b)) rfl ⟨(xn_ar (n := z + k) (N := 64) rfl (by omega) (by decide)), trivial⟩ ?_
      refine xw_at (f' := (57, [.ref 60, .int (nI z), .int 0, .int (nI k), .int (nI (xB (decide (k < n)))), .int (nI (xsc (xlt T t (xrp T t p k))))], [])) (h' := (xS b, xm_up (xm_up J 60 5 (nI (xrp T t p (k + 1)))) 65 (z + k) (nI (xsc (xlt T t (xrp T t p k)))), L, xP b)) rfl (show (xS b, xm_up (xm_up J 60 5 (nI (xrp T t p (k + 1)))) 65 (nI (z + k)).toNatClampNeg (nI (xsc (xlt T t (xrp T t p k)))), L, xP b) = (xS b, xm_up (xm_up J 60 5 (nI (xrp T t p (k + 1)))) 65 (z + k) (nI (xsc (xlt T t (xrp T t p k)))), L, xP b) from ?_) ?_
      · rw [xn_cl (by omega)]
      refine xw_go xb_135 1 (f1 := (60, [.ref 60, .int (nI z), .int 0, .int ((nI k) + 1), .int (nI (xB (decide (k < n)))), .int (nI (xsc (xlt T t (xrp T t p k))))], [])) (h1 := (xS b, xm_up (xm_up J 60 5 (nI (xrp T t p (k + 1)))) 65 (z + k) (nI (xsc (xlt T t (xrp T t p k)))), L, xP b)) rfl trivial ?_
      refine xw_cong (l' := [.ref 60, .int (nI z), .int 0, .int (nI (k + 1)), .int (nI (xB (decide (k < n)))), .int (nI (xsc (xlt T t (xrp T t p k))))]) (st' := []) (h' := (xS b, xm_up (xm_up J 60 5 (nI (xrp T t p (k + 1)))) 65 (z + k) (nI (xsc (xlt T t (xrp T t p k)))), L, xP b)) (show ([.ref 60, .int (nI z), .int 0, .int ((nI k) + 1), .int (nI (xB (decide (k < n)))), .int (nI (xsc (xlt T t (xrp T t p k))))] : List Value) = [.ref 60, .int (nI z), .int 0, .int (nI (k + 1)), .int (nI (xB (decide (k < n)))), .int (nI (xsc (xlt T t (xrp T t p k))))] from ?_) rfl rfl ?_
      · rw [nI_1]
      refine xw_go xb_135 5 (f1 := (if (nI (k + 1)) < 2 then 98 else 82, [.ref 60, .int (nI z), .int 0, .int (nI (k + 1)), .int (nI (xB (decide (k < n)))), .int (nI (xsc (xlt T t (xrp T t p k))))], [])) (h1 := (xS b, xm_up (xm_up J 60 5 (nI (xrp T t p (k + 1)))) 65 (z + k) (nI (xsc (xlt T t (xrp T t p k)))), L, xP b)) rfl trivial ?_
      refine xw_if (fun c_79 => ?_) (fun c_79 => ?_)
      · skip
        refine xw_go xb_135 4 (f1 := (5, [.ref 60, .int (nI z), .int 0, .int (nI (k + 1)), .int 1, .int (nI (xsc (xlt T t (xrp T t p k))))], [])) (h1 := (xS b, xm_up (xm_up J 60 5 (nI (xrp T t p (k + 1)))) 65 (z + k) (nI (xsc (xlt T t (xrp T t p k)))), L, xP b)) rfl trivial ?_
        refine xw_fg (l0 := [.ref 60, .int (nI z), .int 0, .int (nI (k + 1)), .int 1, .float 0]) ⟨Or.inr rfl, Or.inr rfl, Or.inr rfl, Or.inr rfl, Or.inr rfl, Or.inl rfl, trivial⟩ ?_
        try simp (disch := omega) only [xl_2, xl_8, nI_ltI, nI_leI] at c_79
        try simp (disch := omega) only [xl_2, xl_8, nI_ltI, nI_leI] at c_85
        have mo : k + 1 < n := by
          first
            | omega
            | (rcases Nat.lt_or_ge (k + 1) n with q | q
               · exact q
               · exfalso
                 have e : k + 1 = n := by omega
                 have f9 := nf (by omega)
                 rw [← e] at f9
                 exact absurd (decide_eq_true (Classical.not_not.mp c_95)) (by unfold xfr9 at f9; rw [f9]; decide))
        refine xw_cong ?_ rfl rfl (ih _ ⟨_, xrp T t p (k + 1), rfl, fun q h1 h2 => ?_, fun j h1 => ?_, ?_, ?_, ?_, fun j hj => ?_, fun j hj => ?_⟩)
        · rw [decide_eq_true mo]
          rfl
        · rw [xm_up_o h2, xm_up_o h1]
          exact j1 q h1 h2
        · rw [xm_up_o (by decide), xm_up_ne (Or.inr h1)]
          exact j2 j h1
        · rw [xm_up_o (by decide)]
          exact xm_up_at _ _ _ _
        · rfl
        · exact rl
        · by_cases e : j = k
          · subst e
            rw [xm_up_at]
          · rw [xm_up_ne (Or.inr (by omega)), xm_up_o (by decide)]
            exact j6 j (by omega)
        · rw [xm_up_ne (Or.inr (by omega)), xm_up_o (by decide)]
          exact j7 j hj
      · skip
        refine xw_go xb_135 3 (f1 := (if 8 ≤ (nI (k + 1)) then 102 else 88, [.ref 60, .int (nI z), .int 0, .int (nI (k + 1)), .int (nI (xB (decide (k < n)))), .int (nI (xsc (xlt T t (xrp T t p k))))], [])) (h1 := (xS b, xm_up (xm_up J 60 5 (nI (xrp T t p (k + 1)))) 65 (z + k) (nI (xsc (xlt T t (xrp T t p k)))), L, xP b)) rfl trivial ?_
        refine xw_if (fun c_85 => ?_) (fun c_85 => ?_)
        · skip
          refine xw_go xb_135 3 (f1 := (5, [.ref 60, .int (nI z), .int 0, .int (nI (k + 1)), .int 0, .int (nI (xsc (xlt T t (xrp T t p k))))], [])) (h1 := (xS b, xm_up (xm_up J 60 5 (nI (xrp T t p (k + 1)))) 65 (z + k) (nI (xsc (xlt T t (xrp T t p k)))), L, xP b)) rfl trivial ?_
          refine xw_fg (l0 := [.ref 60, .int (nI z), .int 0, .int (nI (k + 1)), .int 0, .float 0]) ⟨Or.inr rfl, Or.inr rfl, Or.inr rfl, Or.inr rfl, Or.inr rfl, Or.inl rfl, trivial⟩ ?_
          try simp (disch := omega) only [xl_2, xl_8, nI_ltI, nI_leI] at c_79
          try simp (disch := omega) only [xl_2, xl_8, nI_ltI, nI_leI] at c_85
          have mo : ¬ k + 1 < n := by
            first
              | omega
              | exact fun q => c_95 (of_decide_eq_true (nt (k + 1) q))
          refine xw_cong ?_ rfl rfl (ih _ ⟨_, xrp T t p (k + 1), rfl, fun q h1 h2 => ?_, fun j h1 => ?_, ?_, ?_, ?_, fun j hj => ?_, fun j hj => ?_⟩)
          · rw [decide_eq_false mo]
            rfl
          · rw [xm_up_o h2, xm_up_o h1]
            exact j1 q h1 h2
          · rw [xm_up_o (by decide), xm_up_ne (Or.inr h1)]
            exact j2 j h1
          · rw [xm_up_o (by decide)]
            exact xm_up_at _ _ _ _
          · rfl
          · exact rl
          · by_cases e : j = k
            · subst e
              rw [xm_up_at]
            · rw [xm_up_ne (Or.inr (by omega)), xm_up_o (by decide)]
              exact j6 j (by omega)
          · rw [xm_up_ne (Or.inr (by omega)), xm_up_o (by decide)]
            exact j7 j hj
        · skip
          have r2 : xMR T t (xm_up (xm_up J 60 5 (nI (xrp T t p (k + 1)))) 65 (z + k) (nI (xsc (xlt T t (xrp T t p k))))) := xMR_fr r1 (by rw [xm_up_o (by decide), xm_up_ne (Or.inr (by decide))]) (by rw [xm_up_o (by decide), xm_up_o (by decide)])
          refine xw_go xb_135 1 (f1 := (89, [.ref 60, .int (nI z), .int 0, .int (nI (k + 1)), .int (nI (xB (decide (k < n)))), .int (nI (xsc (xlt T t (xrp T t p k))))], [.ref 60])) (h1 := (xS b, xm_up (xm_up J 60 5 (nI (xrp T t p (k + 1)))) 65 (z + k) (nI (xsc (xlt T t (xrp T t p k)))), L, xP b)) rfl trivial ?_
          refine xw_call xb_135 rfl rfl rfl rfl rfl (Or.inr ⟨_, _, rfl, rfl⟩) (m_here (I := (xm_up (xm_up J 60 5 (nI (xrp T t p (k + 1)))) 65 (z + k) (nI (xsc (xlt T t (xrp T t p k)))))) (a := xrp T t p (k + 1)) r2 (by rw [xm_up_o (by decide), xm_up_at]) rl) ?_
          rintro _ _ ⟨rfl, rfl⟩
          refine xw_at (f' := (92, [.ref 60, .int (nI z), .int 0, .int (nI (k + 1)), .int (nI (xB (decide (k < n)))), .int (nI (xsc (xlt T t (xrp T t p k))))], [.int (nI (xlt T t (xrp T t p (k + 1))))])) (h' := (xS b, xm_up (xm_up (xm_up J 60 5 (nI (xrp T t p (k + 1)))) 65 (z + k) (nI (xsc (xlt T t (xrp T t p k))))) 60 5 (nI (xsk T t (xrp T t p (k + 1)))), L, xP b)) rfl rfl ?_
          refine xw_call xb_135 rfl rfl rfl rfl rfl (Or.inl rfl) (m_soilOf (l := (xlt T t (xrp T t p (k + 1)))) (xlt_le hR.2.1) rfl) ?_
          rintro _ _ ⟨rfl, rfl⟩
          refine xw_at (f' := (95, [.ref 60, .int (nI z), .int 0, .int (nI (k + 1)), .int (nI (xB (decide (k < n)))), .int (nI (xsc (xlt T t (xrp T t p k))))], [.int (xsv (xlt T t (xrp T t p (k + 1))))])) (h' := (xS b, xm_up (xm_up (xm_up J 60 5 (nI (xrp T t p (k + 1)))) 65 (z + k) (nI (xsc (xlt T t (xrp T t p k))))) 60 5 (nI (xsk T t (xrp T t p (k + 1)))), L, xP b)) rfl rfl ?_
          refine xw_go xb_135 1 (f1 := (if (xsv (xlt T t (xrp T t p (k + 1)))) < 0 then 102 else 98, [.ref 60, .int (nI z), .int 0, .int (nI (k + 1)), .int (nI (xB (decide (k < n)))), .int (nI (xsc (xlt T t (xrp T t p k))))], [])) (h1 := (xS b, xm_up (xm_up (xm_up J 60 5 (nI (xrp T t p (k + 1)))) 65 (z + k) (nI (xsc (xlt T t (xrp T t p k))))) 60 5 (nI (xsk T t (xrp T t p (k + 1)))), L, xP b)) rfl trivial ?_
          refine xw_if (fun c_95 => ?_) (fun c_95 => ?_)
          · skip
            refine xw_go xb_135 3 (f1 := (5, [.ref 60, .int (nI z), .int 0, .int (nI (k + 1)), .int 0, .int (nI (xsc (xlt T t (xrp T t p k))))], [])) (h1 := (xS b, xm_up (xm_up (xm_up J 60 5 (nI (xrp T t p (k + 1)))) 65 (z + k) (nI (xsc (xlt T t (xrp T t p k))))) 60 5 (nI (xsk T t (xrp T t p (k + 1)))), L, xP b)) rfl trivial ?_
            refine xw_fg (l0 := [.ref 60, .int (nI z), .int 0, .int (nI (k + 1)), .int 0, .float 0]) ⟨Or.inr rfl, Or.inr rfl, Or.inr rfl, Or.inr rfl, Or.inr rfl, Or.inl rfl, trivial⟩ ?_
            try simp (disch := omega) only [xl_2, xl_8, nI_ltI, nI_leI] at c_79
            try simp (disch := omega) only [xl_2, xl_8, nI_ltI, nI_leI] at c_85
            try rw [xsv_ge] at c_95
            have mo : ¬ k + 1 < n := by
              first
                | omega
                | exact fun q => c_95 (of_decide_eq_true (nt (k + 1) q))
            refine xw_cong ?_ rfl rfl (ih _ ⟨_, xsk T t (xrp T t p (k + 1)), rfl, fun q h1 h2 => ?_, fun j h1 => ?_, ?_, ?_, ?_, fun j hj => ?_, fun j hj => ?_⟩)
            · rw [decide_eq_false mo]
              rfl
            · rw [xm_up_o h1, xm_up_o h2, xm_up_o h1]
              exact j1 q h1 h2
            · rw [xm_up_ne (Or.inr h1), xm_up_o (by decide), xm_up_ne (Or.inr h1)]
              exact j2 j h1
            · exact xm_up_at _ _ _ _
            · exact xsk_id _
            · exact xsk_le rl
            · rw [xm_up_o (by decide)]
              by_cases e : j = k
              · subst e
                rw [xm_up_at]
              · rw [xm_up_ne (Or.inr (by omega)), xm_up_o (by decide)]
                exact j6 j (by omega)
            · rw [xm_up_o (by decide), xm_up_ne (Or.inr (by omega)), xm_up_o (by decide)]
              exact j7 j hj
          · skip
            refine xw_go xb_135 4 (f1 := (5, [.ref 60, .int (nI z), .int 0, .int (nI (k + 1)), .int 1, .int (nI (xsc (xlt T t (xrp T t p k))))], [])) (h1 := (xS b, xm_up (xm_up (xm_up J 60 5 (nI (xrp T t p (k + 1)))) 65 (z + k) (nI (xsc (xlt T t (xrp T t p k))))) 60 5 (nI (xsk T t (xrp T t p (k + 1)))), L, xP b)) rfl trivial ?_
            refine xw_fg (l0 := [.ref 60, .int (nI z), .int 0, .int (nI (k + 1)), .int 1, .float 0]) ⟨Or.inr rfl, Or.inr rfl, Or.inr rfl, Or.inr rfl, Or.inr rfl, Or.inl rfl, trivial⟩ ?_
            try simp (disch := omega) only [xl_2, xl_8, nI_ltI, nI_leI] at c_79
            try simp (disch := omega) only [xl_2, xl_8, nI_ltI, nI_leI] at c_85
            try rw [xsv_ge] at c_95
            have mo : k + 1 < n := by
              first
                | omega
                | (rcases Nat.lt_or_ge (k + 1) n with q | q
                   · exact q
                   · exfalso
                     have e : k + 1 = n := by omega
                     have f9 := nf (by omega)
                     rw [← e] at f9
                     exact absurd (decide_eq_true (Classical.not_not.mp c_95)) (by unfold xfr9 at f9; rw [f9]; decide))
            refine xw_cong ?_ rfl rfl (ih _ ⟨_, xsk T t (xrp T t p (k + 1)), rfl, fun q h1 h2 => ?_, fun j h1 => ?_, ?_, ?_, ?_, fun j hj => ?_, fun j hj => ?_⟩)
            · rw [decide_eq_true mo]
              rfl
            · rw [xm_up_o h1, xm_up_o h2, xm_up_o h1]
              exact j1 q h1 h2
            · rw [xm_up_ne (Or.inr h1), xm_up_o (by decide), xm_up_ne (Or.inr h1)]
              exact j2 j h1
            · exact xm_up_at _ _ _ _
            · exact xsk_id _
            · exact xsk_le rl
            · rw [xm_up_o (by decide)]
              by_cases e : j = k
              · subst e
                rw [xm_up_at]
              · rw [xm_up_ne (Or.inr (by omega)), xm_up_o (by decide)]
                exact j6 j (by omega)
            · rw [xm_up_o (by decide), xm_up_ne (Or.inr (by omega)), xm_up_o (by decide)]
              exact j7 j hj
  · obtain ⟨J, a, rfl, j1, j2, j3, j4, j5, j6, j7⟩ := hV
    have r1 : xMR T t J := xMR_fr hR (j2 4 (by decide)) (j1 64 (by decide) (by decide))
    have g6 : J 60 6 = 0 := by rw [j2 6 (by decide)]; exact h6
    refine xw_go xb_135 2 (f1 := (9, [.ref 60, .int (nI z), .int 0, .int (nI n), .int (nI (xB (decide (n < n)))), .float 0], [.int (J 60 6)])) (h1 := (xS b, J, L, xP b)) rfl ⟨rfl, trivial⟩ ?_
    refine xw_cong (l' := [.ref 60, .int (nI z), .int 0, .int (nI n), .int (nI (xB (decide (n < n)))), .float 0]) (st' := [.int 0]) (h' := (xS b, J, L, xP b)) rfl (show ([.int (J 60 6)] : List Value) = [.int 0] from ?_) rfl ?_
    · rw [g6]
    refine xw_go xb_135 2 (f1 := (14, [.ref 60, .int (nI z), .int 0, .int (nI n), .int (nI (xB (decide (n < n)))), .float 0], [.int (nI (xB (decide (n < n))))])) (h1 := (xS b, J, L, xP b)) rfl trivial ?_
    refine xw_cong (l' := [.ref 60, .int (nI z), .int 0, .int (nI n), .int (nI (xB (decide (n < n)))), .float 0]) (st' := [.int 0]) (h' := (xS b, J, L, xP b)) rfl (show ([.int (nI (xB (decide (n < n))))] : List Value) = [.int 0] from ?_) rfl ?_
    · rw [decide_eq_false (Nat.lt_irrefl n)]
      rfl
    refine xw_go xb_135 2 (f1 := (109, [.ref 60, .int (nI z), .int 0, .int (nI n), .int (nI (xB (decide (n < n)))), .float 0], [.int (nI n)])) (h1 := (xS b, J, L, xP b)) rfl trivial ?_
    refine xw_ret xb_135 rfl rfl trivial ?_
    exact ⟨rfl, J, a, rfl, j1, j2, j3, j4, j5, j6, j7⟩

theorem m_row1B {d : Nat} {b : Bool} {I : Nat → Nat → Int32} {L : Nat → Nat → Int64} {T : Nat → Nat} {t : Nat} (hR : xMR T t I) {z c p a n : Nat} (h6 : I 60 6 = 0) (h5 : I 60 5 = nI a) (ha : a ≤ t) (hp : xsk T t a = xsk T t p) (hp2 : p ≤ t) (hz : z + 8 ≤ 64) (hn : n = xld (xfr9 T t p) 8) (hg : n < 2) {x1 : Int32} (e_x1 : x1 = nI z) {x2 : Int32} (e_x2 : x2 = 0) : xm_Z (d + 3) 135 [.ref 60, .int x1, .int x2] (xS b, I, L, xP b) (fun rz hz => ∃ v, rz = some (.int v) ∧ ∃ I', hz = (xS b, I', L, xP b) ∧ (∀ q, q ≠ 60 → q ≠ 65 → I' q = I q) ∧ (∀ j, j ≠ 5 → j ≠ 6 → I' 60 j = I 60 j) ∧ I' 60 5 = nI (xsk T t (xrp T t p n)) ∧ I' 60 6 = 1) := by
  subst e_x1
  subst e_x2
  have nl : n ≤ 8 := by rw [hn]; exact xld_le _ _
  have nt : ∀ j, j < n → xfr9 T t p j = true := fun j hj => xld_t 8 j (by rw [← hn]; exact hj)
  have nf : n < 8 → xfr9 T t p n = false := fun q => by rw [hn]; exact xld_f 8 (by rw [← hn]; exact q)
  refine xw_S xb_135 (l := [.ref 60, .int (nI z), .int 0, .float 0, .float 0, .float 0]) (Nat.le_of_ble_eq_true rfl) rfl ?_
  refine xw_go xb_135 4 (f1 := (5, [.ref 60, .int (nI z), .int 0, .int 0, .int 1, .float 0], [])) (h1 := (xS b, I, L, xP b)) rfl trivial ?_
  refine xw_cong (l' := [.ref 60, .int (nI z), .int 0, .int (nI 0), .int 1, .float 0]) (st' := []) (h' := (xS b, I, L, xP b)) (show ([.ref 60, .int (nI z), .int 0, .int 0, .int 1, .float 0] : List Value) = [.ref 60, .int (nI z), .int 0, .int (nI 0), .int 1, .float 0] from ?_) rfl rfl ?_
  · rfl
  refine xw_loopP n (fun k => (5, [.ref 60, .int (nI z), .int 0, .int (nI k), .int 1, .float 0], [])) (fun k h => ∃ J a, h = (xS b, J, L, xP b) ∧ (∀ q, q ≠ 60 → q ≠ 65 → J q = I q) ∧ (∀ j, j ≠ 5 → J 60 j = I 60 j) ∧ J 60 5 = nI a ∧ xsk T t a = xsk T t (xrp T t p k) ∧ a ≤ t ∧ (∀ j, j < k → J 65 (z + j) = nI (xsc (xlt T t (xrp T t p j)))) ∧ ∀ j, j < z → J 65 j = I 65 j) (fun k h hk hV ih => ?_) (fun h hV => ?_) 0 _ (Nat.zero_le _) ⟨I, a, rfl, fun _ _ _ => rfl, fun _ _ => rfl, h5, hp, ha, fun j hj => absurd hj (Nat.not_lt_zero j), fun _ _ => rfl⟩
  · obtain ⟨J, a, rfl, j1, j2, j3, j4, j5, j6, j7⟩ := hV
    have r1 : xMR T t J := xMR_fr hR (j2 4 (by decide)) (j1 64 (by decide) (by decide))
    have g6 : J 60 6 = 0 := by rw [j2 6 (by decide)]; exact h6
    have fk : xfr9 T t p k = true := nt k hk
    have fc := of_decide_eq_true fk
    have rl : xrp T t p (k + 1) ≤ t := xrp_le hp2 nt (k + 1) (by omega)
    have hkl : k < 8 := Nat.lt_of_lt_of_le hk nl
    refine xw_go xb_135 2 (f1 := (9, [.ref 60, .int (nI z), .int 0, .int (nI k), .int 1, .float 0], [.int (J 60 6)])) (h1 := (xS b, J, L, xP b)) rfl ⟨rfl, trivial⟩ ?_
    refine xw_cong (l' := [.ref 60, .int (nI z), .int 0, .int (nI k), .int 1, .float 0]) (st' := [.int 0]) (h' := (xS b, J, L, xP b)) rfl (show ([.int (J 60 6)] : List Value) = [.int 0] from ?_) rfl ?_
    · rw [g6]
    refine xw_go xb_135 4 (f1 := (18, [.ref 60, .int (nI z), .int 0, .int (nI k), .int 1, .float 0], [.ref 60])) (h1 := (xS b, J, L, xP b)) rfl trivial ?_
    refine xw_call xb_135 rfl rfl rfl rfl rfl (Or.inr ⟨_, _, rfl, rfl⟩) (m_here (I := J) (a := a) r1 j3 j5) ?_
    rintro _ _ ⟨rfl, rfl⟩
    refine xw_at (f' := (21, [.ref 60, .int (nI z), .int 0, .int (nI k), .int 1, .float 0], [.int (nI (xlt T t a))])) (h' := (xS b, xm_up J 60 5 (nI (xsk T t a)), L, xP b)) rfl rfl ?_
    refine xw_cong (l' := [.ref 60, .int (nI z), .int 0, .int (nI k), .int 1, .float 0]) (st' := [.int (nI (xlt T t (xrp T t p k)))]) (h' := (xS b, xm_up J 60 5 (nI (xsk T t a)), L, xP b)) rfl (show ([.int (nI (xlt T t a))] : List Value) = [.int (nI (xlt T t (xrp T t p k)))] from ?_) rfl ?_
    · rw [xlt_c j4]
    refine xw_at (f' := (21, [.ref 60, .int (nI z), .int 0, .int (nI k), .int 1, .float 0], [.int (nI (xlt T t (xrp T t p k)))])) (h' := (xS b, xm_up J 60 5 (nI (xsk T t (xrp T t p k))), L, xP b)) rfl (show (xS b, xm_up J 60 5 (nI (xsk T t a)), L, xP b) = (xS b, xm_up J 60 5 (nI (xsk T t (xrp T t p k))), L, xP b) from ?_) ?_
    · rw [j4]
    refine xw_call xb_135 rfl rfl rfl rfl rfl (Or.inl rfl) (m_soilOf (l := (xlt T t (xrp T t p k))) (xlt_le hR.2.1) rfl) ?_
    rintro _ _ ⟨rfl, rfl⟩
    refine xw_at (f' := (24, [.ref 60, .int (nI z), .int 0, .int (nI k), .int 1, .float 0], [.int (xsv (xlt T t (xrp T t p k)))])) (h' := (xS b, xm_up J 60 5 (nI (xsk T t (xrp T t p k))), L, xP b)) rfl rfl ?_
    refine xw_cong (l' := [.ref 60, .int (nI z), .int 0, .int (nI k), .int 1, .float 0]) (st' := [.int (nI (xsc (xlt T t (xrp T t p k))))]) (h' := (xS b, xm_up J 60 5 (nI (xsk T t (xrp T t p k))), L, xP b)) rfl (show ([.int (xsv (xlt T t (xrp T t p k)))] : List Value) = [.int (nI (xsc (xlt T t (xrp T t p k))))] from ?_) rfl ?_
    · unfold xsv
      rw [if_pos fc]
    refine xw_go xb_135 4 (f1 := (if (nI (xsc (xlt T t (xrp T t p k)))) < 0 then 36 else 32, [.ref 60, .int (nI z), .int 0, .int (nI k), .int 1, .int (nI (xsc (xlt T t (xrp T t p k))))], [.ref 60])) (h1 := (xS b, xm_up J 60 5 (nI (xsk T t (xrp T t p k))), L, xP b)) rfl trivial ?_
    refine xw_if (fun c_29 => ?_) (fun c_29 => ?_)
    · skip
      exfalso
      rw [xl_0, nI_ltI (by omega) (by omega)] at c_29
      omega
    · skip
      refine xw_go xb_135 2 (f1 := (37, [.ref 60, .int (nI z), .int 0, .int (nI k), .int 1, .int (nI (xsc (xlt T t (xrp T t p k))))], [.int 1, .ref 60])) (h1 := (xS b, xm_up J 60 5 (nI (xsk T t (xrp T t p k))), L, xP b)) rfl trivial ?_
      refine xw_call xb_135 rfl rfl rfl rfl rfl (Or.inr ⟨_, _, rfl, rfl⟩) (m_must1 (I := (xm_up J 60 5 (nI (xsk T t (xrp T t p k))))) (a := xsk T t (xrp T t p k)) (by rw [xm_up_ne (Or.inr (by decide))]; exact g6) (xm_up_at _ _ _ _) rfl) ?_
      rintro _ _ ⟨rfl, rfl⟩
      refine xw_at (f' := (40, [.ref 60, .int (nI z), .int 0, .int (nI k), .int 1, .int (nI (xsc (xlt T t (xrp T t p k))))], [])) (h' := (xS b, xm_up (xm_up J 60 5 (nI (xsk T t (xrp T t p k)))) 60 5 (nI (xsk T t (xrp T t p k) + 1)), L, xP b)) rfl rfl ?_
      refine xw_at (f' := (40, [.ref 60, .int (nI z), .int 0, .int (nI k), .int 1, .int (nI (xsc (xlt T t (xrp T t p k))))], [])) (h' := (xS b, xm_up J 60 5 (nI (xrp T t p (k + 1))), L, xP b)) rfl (show (xS b, xm_up (xm_up J 60 5 (nI (xsk T t (xrp T t p k)))) 60 5 (nI (xsk T t (xrp T t p k) + 1)), L, xP b) = (xS b, xm_up J 60 5 (nI (xrp T t p (k + 1))), L, xP b) from ?_) ?_
      · rw [xup_2]
        rfl
      refine xw_go xb_135 2 (f1 := (44, [.ref 60, .int (nI z), .int 0, .int (nI k), .int 1, .int (nI (xsc (xlt T t (xrp T t p k))))], [.int ((xm_up J 60 5 (nI (xrp T t p (k + 1)))) 60 6)])) (h1 := (xS b, xm_up J 60 5 (nI (xrp T t p (k + 1))), L, xP b)) rfl ⟨rfl, trivial⟩ ?_
      refine xw_cong (l' := [.ref 60, .int (nI z), .int 0, .int (nI k), .int 1, .int (nI (xsc (xlt T t (xrp T t p k))))]) (st' := [.int 0]) (h' := (xS b, xm_up J 60 5 (nI (xrp T t p (k + 1))), L, xP b)) rfl (show ([.int ((xm_up J 60 5 (nI (xrp T t p (k + 1)))) 60 6)] : List Value) = [.int 0] from ?_) rfl ?_
      · rw [xm_up_ne (Or.inr (by decide)), g6]
      refine xw_go xb_135 6 (f1 := (54, [.ref 60, .int (nI z), .int 0, .int (nI k), .int 1, .int (nI (xsc (xlt T t (xrp T t p k))))], [.int ((nI z) + (nI k)), .ref 65])) (h1 := (xS b, xm_up J 60 5 (nI (xrp T t p (k + 1))), L, xP b)) rfl ⟨rfl, trivial⟩ ?_
      refine xw_cong (l' := [.ref 60, .int (nI z), .int 0, .int (nI k), .int 1, .int (nI (xsc (xlt T t (xrp T t p k))))]) (st' := [.int (nI (z + k)), .ref 65]) (h' := (xS b, xm_up J 60 5 (nI (xrp T t p (k + 1))), L, xP b)) rfl (show ([.int ((nI z) + (nI k)), .ref 65] : List Value) = [.int (nI (z + k)), .ref 65] from ?_) rfl ?_
      · rw [nI_add]
      refine xw_go xb_135 2 (f1 := (57, [.ref 60, .int (nI z), .int 0, .int (nI k), .int 1, .int (nI (xsc (xlt T t (xrp T t p k))))], [])) (h1 := (xS b, xm_up (xm_up J 60 5 (nI (xrp T t p (k + 1)))) 65 (nI (z + k)).toNatClampNeg (nI (xsc (xlt T t (xrp T t p k)))), L, xP b)) rfl ⟨(xn_ar (n := z + k) (N := 64) rfl (by omega) (by decide)), trivial⟩ ?_
      refine xw_at (f' := (57, [.ref 60, .int (nI z), .int 0, .int (nI k), .int 1, .int (nI (xsc (xlt T t (xrp T t p k))))], [])) (h' := (xS b, xm_up (xm_up J 60 5 (nI (xrp T t p (k + 1)))) 65 (z + k) (nI (xsc (xlt T t (xrp T t p k)))), L, xP b)) rfl (show (xS b, xm_up (xm_up J 60 5 (nI (xrp T t p (k + 1)))) 65 (nI (z + k)).toNatClampNeg (nI (xsc (xlt T t (xrp T t p k)))), L, xP b) = (xS b, xm_up (xm_up J 60 5 (nI (xrp T t p (k + 1)))) 65 (z + k) (nI (xsc (xlt T t (xrp T t p k)))), L, xP b) from ?_) ?_
      · rw [xn_cl (by omega)]
      refine xw_go xb_135 1 (f1 := (60, [.ref 60, .int (nI z), .int 0, .int ((nI k) + 1), .int 1, .int (nI (xsc (xlt T t (xrp T t p k))))], [])) (h1 := (xS b, xm_up (xm_up J 60 5 (nI (xrp T t p (k + 1)))) 65 (z + k) (nI (xsc (xlt T t (xrp T t p k)))), L, xP b)) rfl trivial ?_
      refine xw_cong (l' := [.ref 60, .int (nI z), .int 0, .int (nI (k + 1)), .int 1, .int (nI (xsc (xlt T t (xrp T t p k))))]) (st' := []) (h' := (xS b, xm_up (xm_up J 60 5 (nI (xrp T t p (k + 1)))) 65 (z + k) (nI (xsc (xlt T t (xrp T t p k)))), L, xP b)) (show ([.ref 60, .int (nI z), .int 0, .int ((nI k) + 1), .int 1, .int (nI (xsc (xlt T t (xrp T t p k))))] : List Value) = [.ref 60, .int (nI z), .int 0, .int (nI (k + 1)), .int 1, .int (nI (xsc (xlt T t (xrp T t p k))))] from ?_) rfl rfl ?_
      · rw [nI_1]
      refine xw_go xb_135 5 (f1 := (if (nI (k + 1)) < 2 then 98 else 82, [.ref 60, .int (nI z), .int 0, .int (nI (k + 1)), .int 1, .int (nI (xsc (xlt T t (xrp T t p k))))], [])) (h1 := (xS b, xm_up (xm_up J 60 5 (nI (xrp T t p (k + 1)))) 65 (z + k) (nI (xsc (xlt T t (xrp T t p k)))), L, xP b)) rfl trivial ?_
      refine xw_if (fun c_79 => ?_) (fun c_79 => ?_)
      · skip
        refine xw_go xb_135 4 (f1 := (5, [.ref 60, .int (nI z), .int 0, .int (nI (k + 1)), .int 1, .int (nI (xsc (xlt T t (xrp T t p k))))], [])) (h1 := (xS b, xm_up (xm_up J 60 5 (nI (xrp T t p (k + 1)))) 65 (z + k) (nI (xsc (xlt T t (xrp T t p k)))), L, xP b)) rfl trivial ?_
        refine xw_fg (l0 := [.ref 60, .int (nI z), .int 0, .int (nI (k + 1)), .int 1, .float 0]) ⟨Or.inr rfl, Or.inr rfl, Or.inr rfl, Or.inr rfl, Or.inr rfl, Or.inl rfl, trivial⟩ ?_
        try simp (disch := omega) only [xl_2, xl_8, nI_ltI, nI_leI] at c_79
        try simp (disch := omega) only [xl_2, xl_8, nI_ltI, nI_leI] at c_85
        refine xw_cong ?_ rfl rfl (ih _ ⟨_, xrp T t p (k + 1), rfl, fun q h1 h2 => ?_, fun j h1 => ?_, ?_, ?_, ?_, fun j hj => ?_, fun j hj => ?_⟩)
        · rfl
        · rw [xm_up_o h2, xm_up_o h1]
          exact j1 q h1 h2
        · rw [xm_up_o (by decide), xm_up_ne (Or.inr h1)]
          exact j2 j h1
        · rw [xm_up_o (by decide)]
          exact xm_up_at _ _ _ _
        · rfl
        · exact rl
        · by_cases e : j = k
          · subst e
            rw [xm_up_at]
          · rw [xm_up_ne (Or.inr (by omega)), xm_up_o (by decide)]
            exact j6 j (by omega)
        · rw [xm_up_ne (Or.inr (by omega)), xm_up_o (by decide)]
          exact j7 j hj
      · skip
        exfalso
        simp (disch := omega) only [xl_2, nI_ltI] at c_79
        omega
  · obtain ⟨J, a, rfl, j1, j2, j3, j4, j5, j6, j7⟩ := hV
    have r1 : xMR T t J := xMR_fr hR (j2 4 (by decide)) (j1 64 (by decide) (by decide))
    have g6 : J 60 6 = 0 := by rw [j2 6 (by decide)]; exact h6
    have fc : ¬ xsc (xlt T t (xrp T t p n)) < 3 := fun q => absurd (decide_eq_true q) (by have f9 := nf (by omega); unfold xfr9 at f9; rw [f9]; decide)
    refine xw_go xb_135 2 (f1 := (9, [.ref 60, .int (nI z), .int 0, .int (nI n), .int 1, .float 0], [.int (J 60 6)])) (h1 := (xS b, J, L, xP b)) rfl ⟨rfl, trivial⟩ ?_
    refine xw_cong (l' := [.ref 60, .int (nI z), .int 0, .int (nI n), .int 1, .float 0]) (st' := [.int 0]) (h' := (xS b, J, L, xP b)) rfl (show ([.int (J 60 6)] : List Value) = [.int 0] from ?_) rfl ?_
    · rw [g6]
    refine xw_go xb_135 4 (f1 := (18, [.ref 60, .int (nI z), .int 0, .int (nI n), .int 1, .float 0], [.ref 60])) (h1 := (xS b, J, L, xP b)) rfl trivial ?_
    refine xw_call xb_135 rfl rfl rfl rfl rfl (Or.inr ⟨_, _, rfl, rfl⟩) (m_here (I := J) (a := a) r1 j3 j5) ?_
    rintro _ _ ⟨rfl, rfl⟩
    refine xw_at (f' := (21, [.ref 60, .int (nI z), .int 0, .int (nI n), .int 1, .float 0], [.int (nI (xlt T t a))])) (h' := (xS b, xm_up J 60 5 (nI (xsk T t a)), L, xP b)) rfl rfl ?_
    refine xw_cong (l' := [.ref 60, .int (nI z), .int 0, .int (nI n), .int 1, .float 0]) (st' := [.int (nI (xlt T t (xrp T t p n)))]) (h' := (xS b, xm_up J 60 5 (nI (xsk T t a)), L, xP b)) rfl (show ([.int (nI (xlt T t a))] : List Value) = [.int (nI (xlt T t (xrp T t p n)))] from ?_) rfl ?_
    · rw [xlt_c j4]
    refine xw_at (f' := (21, [.ref 60, .int (nI z), .int 0, .int (nI n), .int 1, .float 0], [.int (nI (xlt T t (xrp T t p n)))])) (h' := (xS b, xm_up J 60 5 (nI (xsk T t (xrp T t p n))), L, xP b)) rfl (show (xS b, xm_up J 60 5 (nI (xsk T t a)), L, xP b) = (xS b, xm_up J 60 5 (nI (xsk T t (xrp T t p n))), L, xP b) from ?_) ?_
    · rw [j4]
    refine xw_call xb_135 rfl rfl rfl rfl rfl (Or.inl rfl) (m_soilOf (l := (xlt T t (xrp T t p n))) (xlt_le hR.2.1) rfl) ?_
    rintro _ _ ⟨rfl, rfl⟩
    refine xw_at (f' := (24, [.ref 60, .int (nI z), .int 0, .int (nI n), .int 1, .float 0], [.int (xsv (xlt T t (xrp T t p n)))])) (h' := (xS b, xm_up J 60 5 (nI (xsk T t (xrp T t p n))), L, xP b)) rfl rfl ?_
    refine xw_cong (l' := [.ref 60, .int (nI z), .int 0, .int (nI n), .int 1, .float 0]) (st' := [.int (-1)]) (h' := (xS b, xm_up J 60 5 (nI (xsk T t (xrp T t p n))), L, xP b)) rfl (show ([.int (xsv (xlt T t (xrp T t p n)))] : List Value) = [.int (-1)] from ?_) rfl ?_
    · unfold xsv
      rw [if_neg fc]
    refine xw_go xb_135 5 (f1 := (37, [.ref 60, .int (nI z), .int 0, .int (nI n), .int 1, .int (-1)], [.int 0, .ref 60])) (h1 := (xS b, xm_up J 60 5 (nI (xsk T t (xrp T t p n))), L, xP b)) rfl trivial ?_
    refine xw_call xb_135 rfl rfl rfl rfl rfl (Or.inr ⟨_, _, rfl, rfl⟩) (m_must0 (I := (xm_up J 60 5 (nI (xsk T t (xrp T t p n))))) (a := xsk T t (xrp T t p n)) (by rw [xm_up_ne (Or.inr (by decide))]; exact g6) (xm_up_at _ _ _ _) rfl) ?_
    rintro _ _ ⟨rfl, rfl⟩
    refine xw_at (f' := (40, [.ref 60, .int (nI z), .int 0, .int (nI n), .int 1, .int (-1)], [])) (h' := (xS b, xm_up (xm_up J 60 5 (nI (xsk T t (xrp T t p n)))) 60 6 1, L, xP b)) rfl rfl ?_
    refine xw_go xb_135 2 (f1 := (44, [.ref 60, .int (nI z), .int 0, .int (nI n), .int 1, .int (-1)], [.int ((xm_up (xm_up J 60 5 (nI (xsk T t (xrp T t p n)))) 60 6 1) 60 6)])) (h1 := (xS b, xm_up (xm_up J 60 5 (nI (xsk T t (xrp T t p n)))) 60 6 1, L, xP b)) rfl ⟨rfl, trivial⟩ ?_
    refine xw_cong (l' := [.ref 60, .int (nI z), .int 0, .int (nI n), .int 1, .int (-1)]) (st' := [.int 1]) (h' := (xS b, xm_up (xm_up J 60 5 (nI (xsk T t (xrp T t p n)))) 60 6 1, L, xP b)) rfl (show ([.int ((xm_up (xm_up J 60 5 (nI (xsk T t (xrp T t p n)))) 60 6 1) 60 6)] : List Value) = [.int 1] from ?_) rfl ?_
    · rw [xm_up_at]
    refine xw_go xb_135 6 (f1 := (if (nI n) < 2 then 98 else 82, [.ref 60, .int (nI z), .int 0, .int (nI n), .int 1, .int (-1)], [])) (h1 := (xS b, xm_up (xm_up J 60 5 (nI (xsk T t (xrp T t p n)))) 60 6 1, L, xP b)) rfl trivial ?_
    refine xw_if (fun c_79 => ?_) (fun c_79 => ?_)
    · skip
      refine xw_go xb_135 4 (f1 := (5, [.ref 60, .int (nI z), .int 0, .int (nI n), .int 1, .int (-1)], [])) (h1 := (xS b, xm_up (xm_up J 60 5 (nI (xsk T t (xrp T t p n)))) 60 6 1, L, xP b)) rfl trivial ?_
      refine xw_go xb_135 2 (f1 := (9, [.ref 60, .int (nI z), .int 0, .int (nI n), .int 1, .int (-1)], [.int ((xm_up (xm_up J 60 5 (nI (xsk T t (xrp T t p n)))) 60 6 1) 60 6)])) (h1 := (xS b, xm_up (xm_up J 60 5 (nI (xsk T t (xrp T t p n)))) 60 6 1, L, xP b)) rfl ⟨rfl, trivial⟩ ?_
      refine xw_cong (l' := [.ref 60, .int (nI z), .int 0, .int (nI n), .int 1, .int (-1)]) (st' := [.int 1]) (h' := (xS b, xm_up (xm_up J 60 5 (nI (xsk T t (xrp T t p n)))) 60 6 1, L, xP b)) rfl (show ([.int ((xm_up (xm_up J 60 5 (nI (xsk T t (xrp T t p n)))) 60 6 1) 60 6)] : List Value) = [.int 1] from ?_) rfl ?_
      · rw [xm_up_at]
      refine xw_go xb_135 2 (f1 := (109, [.ref 60, .int (nI z), .int 0, .int (nI n), .int 1, .int (-1)], [.int (nI n)])) (h1 := (xS b, xm_up (xm_up J 60 5 (nI (xsk T t (xrp T t p n)))) 60 6 1, L, xP b)) rfl trivial ?_
      refine xw_ret xb_135 rfl rfl trivial ?_
      refine ⟨_, rfl, _, rfl, fun q h1 h2 => ?_, fun j h1 h2 => ?_, ?_, ?_⟩
      · rw [xm_up_o h1, xm_up_o h1]
        exact j1 q h1 h2
      · rw [xm_up_ne (Or.inr h2), xm_up_ne (Or.inr h1)]
        exact j2 j h1
      · rw [xm_up_ne (Or.inr (by decide)), xm_up_at]
      · rw [xm_up_at]
    · skip
      exfalso
      simp (disch := omega) only [xl_2, nI_ltI] at c_79
      omega

theorem m_row2G {d : Nat} {b : Bool} {I : Nat → Nat → Int32} {L : Nat → Nat → Int64} {T : Nat → Nat} {t : Nat} (hR : xMR T t I) {z c p a n : Nat} (h6 : I 60 6 = 0) (h5 : I 60 5 = nI a) (ha : a ≤ t) (hp : xsk T t a = xsk T t p) (hp2 : p ≤ t) (bc : 2 ≤ c ∧ c ≤ 8) (hz : z + c ≤ 64) (hn : n = xld (xfr9 T t p) c) (hg : n = c) {x1 : Int32} (e_x1 : x1 = nI z) {x2 : Int32} (e_x2 : x2 = nI c) : xm_Z (d + 3) 135 [.ref 60, .int x1, .int x2] (xS b, I, L, xP b) (fun rz hz => rz = some (.int (nI n)) ∧ ∃ I' a, hz = (xS b, I', L, xP b) ∧ (∀ q, q ≠ 60 → q ≠ 65 → I' q = I q) ∧ (∀ j, j ≠ 5 → I' 60 j = I 60 j) ∧ I' 60 5 = nI a ∧ xsk T t a = xsk T t (xrp T t p n) ∧ a ≤ t ∧ (∀ j, j < n → I' 65 (z + j) = nI (xsc (xlt T t (xrp T t p j)))) ∧ ∀ j, j < z → I' 65 j = I 65 j) := by
  subst e_x1
  subst e_x2
  have nl : n ≤ c := by rw [hn]; exact xld_le _ _
  have nt : ∀ j, j < n → xfr9 T t p j = true := fun j hj => xld_t c j (by rw [← hn]; exact hj)
  have nf : n < c → xfr9 T t p n = false := fun q => by rw [hn]; exact xld_f c (by rw [← hn]; exact q)
  refine xw_S xb_135 (l := [.ref 60, .int (nI z), .int (nI c), .float 0, .float 0, .float 0]) (Nat.le_of_ble_eq_true rfl) rfl ?_
  refine xw_go xb_135 4 (f1 := (5, [.ref 60, .int (nI z), .int (nI c), .int 0, .int 1, .float 0], [])) (h1 := (xS b, I, L, xP b)) rfl trivial ?_
  refine xw_cong (l' := [.ref 60, .int (nI z), .int (nI c), .int (nI 0), .int 1, .float 0]) (st' := []) (h' := (xS b, I, L, xP b)) (show ([.ref 60, .int (nI z), .int (nI c), .int 0, .int 1, .float 0] : List Value) = [.ref 60, .int (nI z), .int (nI c), .int (nI 0), .int 1, .float 0] from ?_) rfl rfl ?_
  · rfl
  refine xw_cong (l' := [.ref 60, .int (nI z), .int (nI c), .int (nI 0), .int (nI (xB (decide (0 < n)))), .float 0]) (st' := []) (h' := (xS b, I, L, xP b)) (show ([.ref 60, .int (nI z), .int (nI c), .int (nI 0), .int 1, .float 0] : List Value) = [.ref 60, .int (nI z), .int (nI c), .int (nI 0), .int (nI (xB (decide (0 < n)))), .float 0] from ?_) rfl rfl ?_
  · rw [decide_eq_true (show 0 < n by omega)]
    rfl
  refine xw_loopP n (fun k => (5, [.ref 60, .int (nI z), .int (nI c), .int (nI k), .int (nI (xB (decide (k < n)))), .float 0], [])) (fun k h => ∃ J a, h = (xS b, J, L, xP b) ∧ (∀ q, q ≠ 60 → q ≠ 65 → J q = I q) ∧ (∀ j, j ≠ 5 → J 60 j = I 60 j) ∧ J 60 5 = nI a ∧ xsk T t a = xsk T t (xrp T t p k) ∧ a ≤ t ∧ (∀ j, j < k → J 65 (z + j) = nI (xsc (xlt T t (xrp T t p j)))) ∧ ∀ j, j < z → J 65 j = I 65 j) (fun k h hk hV ih => ?_) (fun h hV => ?_) 0 _ (Nat.zero_le _) ⟨I, a, rfl, fun _ _ _ => rfl, fun _ _ => rfl, h5, hp, ha, fun j hj => absurd hj (Nat.not_lt_zero j), fun _ _ => rfl⟩
  · obtain ⟨J, a, rfl, j1, j2, j3, j4, j5, j6, j7⟩ := hV
    have r1 : xMR T t J := xMR_fr hR (j2 4 (by decide)) (j1 64 (by decide) (by decide))
    have g6 : J 60 6 = 0 := by rw [j2 6 (by decide)]; exact h6
    have fk : xfr9 T t p k = true := nt k hk
    have fc := of_decide_eq_true fk
    have rl : xrp T t p (k + 1) ≤ t := xrp_le hp2 nt (k + 1) (by omega)
    have hkl : k < c := Nat.lt_of_lt_of_le hk nl
    refine xw_go xb_135 2 (f1 := (9, [.ref 60, .int (nI z), .int (nI c), .int (nI k), .int (nI (xB (decide (k < n)))), .float 0], [.int (J 60 6)])) (h1 := (xS b, J, L, xP b)) rfl ⟨rfl, trivial⟩ ?_
    refine xw_cong (l' := [.ref 60, .int (nI z), .int (nI c), .int (nI k), .int (nI (xB (decide (k < n)))), .float 0]) (st' := [.int 0]) (h' := (xS b, J, L, xP b)) rfl (show ([.int (J 60 6)] : List Value) = [.int 0] from ?_) rfl ?_
    · rw [g6]
    refine xw_go xb_135 2 (f1 := (14, [.ref 60, .int (nI z), .int (nI c), .int (nI k), .int (nI (xB (decide (k < n)))), .float 0], [.int (nI (xB (decide (k < n))))])) (h1 := (xS b, J, L, xP b)) rfl trivial ?_
    refine xw_cong (l' := [.ref 60, .int (nI z), .int (nI c), .int (nI k), .int (nI (xB (decide (k < n)))), .float 0]) (st' := [.int 1]) (h' := (xS b, J, L, xP b)) rfl (show ([.int (nI (xB (decide (k < n))))] : List Value) = [.int 1] from ?_) rfl ?_
    · rw [decide_eq_true hk]
      rfl
    refine xw_go xb_135 2 (f1 := (18, [.ref 60, .int (nI z), .int (nI c), .int (nI k), .int (nI (xB (decide (k < n)))), .float 0], [.ref 60])) (h1 := (xS b, J, L, xP b)) rfl trivial ?_
    refine xw_call xb_135 rfl rfl rfl rfl rfl (Or.inr ⟨_, _, rfl, rfl⟩) (m_here (I := J) (a := a) r1 j3 j5) ?_
    rintro _ _ ⟨rfl, rfl⟩
    refine xw_at (f' := (21, [.ref 60, .int (nI z), .int (nI c), .int (nI k), .int (nI (xB (decide (k < n)))), .float 0], [.int (nI (xlt T t a))])) (h' := (xS b, xm_up J 60 5 (nI (xsk T t a)), L, xP b)) rfl rfl ?_
    refine xw_cong (l' := [.ref 60, .int (nI z), .int (nI c), .int (nI k), .int (nI (xB (decide (k < n)))), .float 0]) (st' := [.int (nI (xlt T t (xrp T t p k)))]) (h' := (xS b, xm_up J 60 5 (nI (xsk T t a)), L, xP b)) rfl (show ([.int (nI (xlt T t a))] : List Value) = [.int (nI (xlt T t (xrp T t p k)))] from ?_) rfl ?_
    · rw [xlt_c j4]
    refine xw_at (f' := (21, [.ref 60, .int (nI z), .int (nI c), .int (nI k), .int (nI (xB (decide (k < n)))), .float 0], [.int (nI (xlt T t (xrp T t p k)))])) (h' := (xS b, xm_up J 60 5 (nI (xsk T t (xrp T t p k))), L, xP b)) rfl (show (xS b, xm_up J 60 5 (nI (xsk T t a)), L, xP b) = (xS b, xm_up J 60 5 (nI (xsk T t (xrp T t p k))), L, xP b) from ?_) ?_
    · rw [j4]
    refine xw_call xb_135 rfl rfl rfl rfl rfl (Or.inl rfl) (m_soilOf (l := (xlt T t (xrp T t p k))) (xlt_le hR.2.1) rfl) ?_
    rintro _ _ ⟨rfl, rfl⟩
    refine xw_at (f' := (24, [.ref 60, .int (nI z), .int (nI c), .int (nI k), .int (nI (xB (decide (k < n)))), .float 0], [.int (xsv (xlt T t (xrp T t p k)))])) (h' := (xS b, xm_up J 60 5 (nI (xsk T t (xrp T t p k))), L, xP b)) rfl rfl ?_
    refine xw_cong (l' := [.ref 60, .int (nI z), .int (nI c), .int (nI k), .int (nI (xB (decide (k < n)))), .float 0]) (st' := [.int (nI (xsc (xlt T t (xrp T t p k))))]) (h' := (xS b, xm_up J 60 5 (nI (xsk T t (xrp T t p k))), L, xP b)) rfl (show ([.int (xsv (xlt T t (xrp T t p k)))] : List Value) = [.int (nI (xsc (xlt T t (xrp T t p k))))] from ?_) rfl ?_
    · unfold xsv
      rw [if_pos fc]
    refine xw_go xb_135 4 (f1 := (if (nI (xsc (xlt T t (xrp T t p k)))) < 0 then 36 else 32, [.ref 60, .int (nI z), .int (nI c), .int (nI k), .int (nI (xB (decide (k < n)))), .int (nI (xsc (xlt T t (xrp T t p k))))], [.ref 60])) (h1 := (xS b, xm_up J 60 5 (nI (xsk T t (xrp T t p k))), L, xP b)) rfl trivial ?_
    refine xw_if (fun c_29 => ?_) (fun c_29 => ?_)
    · skip
      exfalso
      rw [xl_0, nI_ltI (by omega) (by omega)] at c_29
      omega
    · skip
      refine xw_go xb_135 2 (f1 := (37, [.ref 60, .int (nI z), .int (nI c), .int (nI k), .int (nI (xB (decide (k < n)))), .int (nI (xsc (xlt T t (xrp T t p k))))], [.int 1, .ref 60])) (h1 := (xS b, xm_up J 60 5 (nI (xsk T t (xrp T t p k))), L, xP b)) rfl trivial ?_
      refine xw_call xb_135 rfl rfl rfl rfl rfl (Or.inr ⟨_, _, rfl, rfl⟩) (m_must1 (I := (xm_up J 60 5 (nI (xsk T t (xrp T t p k))))) (a := xsk T t (xrp T t p k)) (by rw [xm_up_ne (Or.inr (by decide))]; exact g6) (xm_up_at _ _ _ _) rfl) ?_
      rintro _ _ ⟨rfl, rfl⟩
      refine xw_at (f' := (40, [.ref 60, .int (nI z), .int (nI c), .int (nI k), .int (nI (xB (decide (k < n)))), .int (nI (xsc (xlt T t (xrp T t p k))))], [])) (h' := (xS b, xm_up (xm_up J 60 5 (nI (xsk T t (xrp T t p k)))) 60 5 (nI (xsk T t (xrp T t p k) + 1)), L, xP b)) rfl rfl ?_
      refine xw_at (f' := (40, [.ref 60, .int (nI z), .int (nI c), .int (nI k), .int (nI (xB (decide (k < n)))), .int (nI (xsc (xlt T t (xrp T t p k))))], [])) (h' := (xS b, xm_up J 60 5 (nI (xrp T t p (k + 1))), L, xP b)) rfl (show (xS b, xm_up (xm_up J 60 5 (nI (xsk T t (xrp T t p k)))) 60 5 (nI (xsk T t (xrp T t p k) + 1)), L, xP b) = (xS b, xm_up J 60 5 (nI (xrp T t p (k + 1))), L, xP b) from ?_) ?_
      · rw [xup_2]
        rfl
      refine xw_go xb_135 2 (f1 := (44, [.ref 60, .int (nI z), .int (nI c), .int (nI k), .int (nI (xB (decide (k < n)))), .int (nI (xsc (xlt T t (xrp T t p k))))], [.int ((xm_up J 60 5 (nI (xrp T t p (k + 1)))) 60 6)])) (h1 := (xS b, xm_up J 60 5 (nI (xrp T t p (k + 1))), L, xP b)) rfl ⟨rfl, trivial⟩ ?_
      refine xw_cong (l' := [.ref 60, .int (nI z), .int (nI c), .int (nI k), .int (nI (xB (decide (k < n)))), .int (nI (xsc (xlt T t (xrp T t p k))))]) (st' := [.int 0]) (h' := (xS b, xm_up J 60 5 (nI (xrp T t p (k + 1))), L, xP b)) rfl (show ([.int ((xm_up J 60 5 (nI (xrp T t p (k + 1)))) 60 6)] : List Value) = [.int 0] from ?_) rfl ?_
      · rw [xm_up_ne (Or.inr (by decide)), g6]
      refine xw_go xb_135 6 (f1 := (54, [.ref 60, .int (nI z), .int (nI c), .int (nI k), .int (nI (xB (decide (k < n)))), .int (nI (xsc (xlt T t (xrp T t p k))))], [.int ((nI z) + (nI k)), .ref 65])) (h1 := (xS b, xm_up J 60 5 (nI (xrp T t p (k + 1))), L, xP b)) rfl ⟨rfl, trivial⟩ ?_
      refine xw_cong (l' := [.ref 60, .int (nI z), .int (nI c), .int (nI k), .int (nI (xB (decide (k < n)))), .int (nI (xsc (xlt T t (xrp T t p k))))]) (st' := [.int (nI (z + k)), .ref 65]) (h' := (xS b, xm_up J 60 5 (nI (xrp T t p (k + 1))), L, xP b)) rfl (show ([.int ((nI z) + (nI k)), .ref 65] : List Value) = [.int (nI (z + k)), .ref 65] from ?_) rfl ?_
      · rw [nI_add]
      refine xw_go xb_135 2 (f1 := (57, [.ref 60, .int (nI z), .int (nI c), .int (nI k), .int (nI (xB (decide (k < n)))), .int (nI (xsc (xlt T t (xrp T t p k))))], [])) (h1 := (xS b, xm_up (xm_up J 60 5 (nI (xrp T t p (k + 1)))) 65 (nI (z + k)).toNatClampNeg (nI (xsc (xlt T t (xrp T t p k)))), L, xP b)) rfl ⟨(xn_ar (n := z + k) (N := 64) rfl (by omega) (by decide)), trivial⟩ ?_
      refine xw_at (f' := (57, [.ref 60, .int (nI z), .int (nI c), .int (nI k), .int (nI (xB (decide (k < n)))), .int (nI (xsc (xlt T t (xrp T t p k))))], [])) (h' := (xS b, xm_up (xm_up J 60 5 (nI (xrp T t p (k + 1)))) 65 (z + k) (nI (xsc (xlt T t (xrp T t p k)))), L, xP b)) rfl (show (xS b, xm_up (xm_up J 60 5 (nI (xrp T t p (k + 1)))) 65 (nI (z + k)).toNatClampNeg (nI (xsc (xlt T t (xrp T t p k)))), L, xP b) = (xS b, xm_up (xm_up J 60 5 (nI (xrp T t p (k + 1)))) 65 (z + k) (nI (xsc (xlt T t (xrp T t p k)))), L, xP b) from ?_) ?_
      · rw [xn_cl (by omega)]
      refine xw_go xb_135 1 (f1 := (60, [.ref 60, .int (nI z), .int (nI c), .int ((nI k) + 1), .int (nI (xB (decide (k < n)))), .int (nI (xsc (xlt T t (xrp T t p k))))], [])) (h1 := (xS b, xm_up (xm_up J 60 5 (nI (xrp T t p (k + 1)))) 65 (z + k) (nI (xsc (xlt T t (xrp T t p k)))), L, xP b)) rfl trivial ?_
      refine xw_cong (l' := [.ref 60, .int (nI z), .int (nI c), .int (nI (k + 1)), .int (nI (xB (decide (k < n)))), .int (nI (xsc (xlt T t (xrp T t p k))))]) (st' := []) (h' := (xS b, xm_up (xm_up J 60 5 (nI (xrp T t p (k + 1)))) 65 (z + k) (nI (xsc (xlt T t (xrp T t p k)))), L, xP b)) (show ([.ref 60, .int (nI z), .int (nI c), .int ((nI k) + 1), .int (nI (xB (decide (k < n)))), .int (nI (xsc (xlt T t (xrp T t p k))))] : List Value) = [.ref 60, .int (nI z), .int (nI c), .int (nI (k + 1)), .int (nI (xB (decide (k < n)))), .int (nI (xsc (xlt T t (xrp T t p k))))] from ?_) rfl rfl ?_
      · rw [nI_1]
      refine xw_go xb_135 2 (f1 := (if (nI c) ≤ 0 then 77 else 64, [.ref 60, .int (nI z), .int (nI c), .int (nI (k + 1)), .int (nI (xB (decide (k < n)))), .int (nI (xsc (xlt T t (xrp T t p k))))], [])) (h1 := (xS b, xm_up (xm_up J 60 5 (nI (xrp T t p (k + 1)))) 65 (z + k) (nI (xsc (xlt T t (xrp T t p k)))), L, xP b)) rfl trivial ?_
      refine xw_if (fun c_61 => ?_) (fun c_61 => ?_)
      · skip
        exfalso
        rw [xl_0, nI_leI (by omega) (by omega)] at c_61
        omega
      · skip
        refine xw_go xb_135 3 (f1 := (if (nI c) ≤ (nI (k + 1)) then 73 else 69, [.ref 60, .int (nI z), .int (nI c), .int (nI (k + 1)), .int (nI (xB (decide (k < n)))), .int (nI (xsc (xlt T t (xrp T t p k))))], [])) (h1 := (xS b, xm_up (xm_up J 60 5 (nI (xrp T t p (k + 1)))) 65 (z + k) (nI (xsc (xlt T t (xrp T t p k)))), L, xP b)) rfl trivial ?_
        refine xw_if (fun c_66 => ?_) (fun c_66 => ?_)
        · skip
          refine xw_go xb_135 4 (f1 := (5, [.ref 60, .int (nI z), .int (nI c), .int (nI (k + 1)), .int 0, .int (nI (xsc (xlt T t (xrp T t p k))))], [])) (h1 := (xS b, xm_up (xm_up J 60 5 (nI (xrp T t p (k + 1)))) 65 (z + k) (nI (xsc (xlt T t (xrp T t p k)))), L, xP b)) rfl trivial ?_
          refine xw_fg (l0 := [.ref 60, .int (nI z), .int (nI c), .int (nI (k + 1)), .int 0, .float 0]) ⟨Or.inr rfl, Or.inr rfl, Or.inr rfl, Or.inr rfl, Or.inr rfl, Or.inl rfl, trivial⟩ ?_
          try simp (disch := omega) only [nI_leI] at c_66
          have mo : ¬ k + 1 < n := by omega
          refine xw_cong ?_ rfl rfl (ih _ ⟨_, xrp T t p (k + 1), rfl, fun q h1 h2 => ?_, fun j h1 => ?_, ?_, ?_, ?_, fun j hj => ?_, fun j hj => ?_⟩)
          · rw [decide_eq_false mo]
            rfl
          · rw [xm_up_o h2, xm_up_o h1]
            exact j1 q h1 h2
          · rw [xm_up_o (by decide), xm_up_ne (Or.inr h1)]
            exact j2 j h1
          · rw [xm_up_o (by decide)]
            exact xm_up_at _ _ _ _
          · rfl
          · exact rl
          · by_cases e : j = k
            · subst e
              rw [xm_up_at]
            · rw [xm_up_ne (Or.inr (by omega)), xm_up_o (by decide)]
              exact j6 j (by omega)
          · rw [xm_up_ne (Or.inr (by omega)), xm_up_o (by decide)]
            exact j7 j hj
        · skip
          refine xw_go xb_135 4 (f1 := (5, [.ref 60, .int (nI z), .int (nI c), .int (nI (k + 1)), .int 1, .int (nI (xsc (xlt T t (xrp T t p k))))], [])) (h1 := (xS b, xm_up (xm_up J 60 5 (nI (xrp T t p (k + 1)))) 65 (z + k) (nI (xsc (xlt T t (xrp T t p k)))), L, xP b)) rfl trivial ?_
          refine xw_fg (l0 := [.ref 60, .int (nI z), .int (nI c), .int (nI (k + 1)), .int 1, .float 0]) ⟨Or.inr rfl, Or.inr rfl, Or.inr rfl, Or.inr rfl, Or.inr rfl, Or.inl rfl, trivial⟩ ?_
          try simp (disch := omega) only [nI_leI] at c_66
          have mo : k + 1 < n := by omega
          refine xw_cong ?_ rfl rfl (ih _ ⟨_, xrp T t p (k + 1), rfl, fun q h1 h2 => ?_, fun j h1 => ?_, ?_, ?_, ?_, fun j hj => ?_, fun j hj => ?_⟩)
          · rw [decide_eq_true mo]
            rfl
          · rw [xm_up_o h2, xm_up_o h1]
            exact j1 q h1 h2
          · rw [xm_up_o (by decide), xm_up_ne (Or.inr h1)]
            exact j2 j h1
          · rw [xm_up_o (by decide)]
            exact xm_up_at _ _ _ _
          · rfl
          · exact rl
          · by_cases e : j = k
            · subst e
              rw [xm_up_at]
            · rw [xm_up_ne (Or.inr (by omega)), xm_up_o (by decide)]
              exact j6 j (by omega)
          · rw [xm_up_ne (Or.inr (by omega)), xm_up_o (by decide)]
            exact j7 j hj
  · obtain ⟨J, a, rfl, j1, j2, j3, j4, j5, j6, j7⟩ := hV
    have r1 : xMR T t J := xMR_fr hR (j2 4 (by decide)) (j1 64 (by decide) (by decide))
    have g6 : J 60 6 = 0 := by rw [j2 6 (by decide)]; exact h6
    refine xw_go xb_135 2 (f1 := (9, [.ref 60, .int (nI z), .int (nI c), .int (nI n), .int (nI (xB (decide (n < n)))), .float 0], [.int (J 60 6)])) (h1 := (xS b, J, L, xP b)) rfl ⟨rfl, trivial⟩ ?_
    refine xw_cong (l' := [.ref 60, .int (nI z), .int (nI c), .int (nI n), .int (nI (xB (decide (n < n)))), .float 0]) (st' := [.int 0]) (h' := (xS b, J, L, xP b)) rfl (show ([.int (J 60 6)] : List Value) = [.int 0] from ?_) rfl ?_
    · rw [g6]
    refine xw_go xb_135 2 (f1 := (14, [.ref 60, .int (nI z), .int (nI c), .int (nI n), .int (nI (xB (decide (n < n)))), .float 0], [.int (nI (xB (decide (n < n))))])) (h1 := (xS b, J, L, xP b)) rfl trivial ?_
    refine xw_cong (l' := [.ref 60, .int (nI z), .int (nI c), .int (nI n), .int (nI (xB (decide (n < n)))), .float 0]) (st' := [.int 0]) (h' := (xS b, J, L, xP b)) rfl (show ([.int (nI (xB (decide (n < n))))] : List Value) = [.int 0] from ?_) rfl ?_
    · rw [decide_eq_false (Nat.lt_irrefl n)]
      rfl
    refine xw_go xb_135 2 (f1 := (109, [.ref 60, .int (nI z), .int (nI c), .int (nI n), .int (nI (xB (decide (n < n)))), .float 0], [.int (nI n)])) (h1 := (xS b, J, L, xP b)) rfl trivial ?_
    refine xw_ret xb_135 rfl rfl trivial ?_
    exact ⟨rfl, J, a, rfl, j1, j2, j3, j4, j5, j6, j7⟩

theorem m_row2B {d : Nat} {b : Bool} {I : Nat → Nat → Int32} {L : Nat → Nat → Int64} {T : Nat → Nat} {t : Nat} (hR : xMR T t I) {z c p a n : Nat} (h6 : I 60 6 = 0) (h5 : I 60 5 = nI a) (ha : a ≤ t) (hp : xsk T t a = xsk T t p) (hp2 : p ≤ t) (bc : 2 ≤ c ∧ c ≤ 8) (hz : z + c ≤ 64) (hn : n = xld (xfr9 T t p) c) (hg : n < c) {x1 : Int32} (e_x1 : x1 = nI z) {x2 : Int32} (e_x2 : x2 = nI c) : xm_Z (d + 3) 135 [.ref 60, .int x1, .int x2] (xS b, I, L, xP b) (fun rz hz => ∃ v, rz = some (.int v) ∧ ∃ I', hz = (xS b, I', L, xP b) ∧ (∀ q, q ≠ 60 → q ≠ 65 → I' q = I q) ∧ (∀ j, j ≠ 5 → j ≠ 6 → I' 60 j = I 60 j) ∧ I' 60 5 = nI (xsk T t (xrp T t p n)) ∧ I' 60 6 = 1) := by
  subst e_x1
  subst e_x2
  have nl : n ≤ c := by rw [hn]; exact xld_le _ _
  have nt : ∀ j, j < n → xfr9 T t p j = true := fun j hj => xld_t c j (by rw [← hn]; exact hj)
  have nf : n < c → xfr9 T t p n = false := fun q => by rw [hn]; exact xld_f c (by rw [← hn]; exact q)
  refine xw_S xb_135 (l := [.ref 60, .int (nI z), .int (nI c), .float 0, .float 0, .float 0]) (Nat.le_of_ble_eq_true rfl) rfl ?_
  refine xw_go xb_135 4 (f1 := (5, [.ref 60, .int (nI z), .int (nI c), .int 0, .int 1, .float 0], [])) (h1 := (xS b, I, L, xP b)) rfl trivial ?_
  refine xw_cong (l' := [.ref 60, .int (nI z), .int (nI c), .int (nI 0), .int 1, .float 0]) (st' := []) (h' := (xS b, I, L, xP b)) (show ([.ref 60, .int (nI z), .int (nI c), .int 0, .int 1, .float 0] : List Value) = [.ref 60, .int (nI z), .int (nI c), .int (nI 0), .int 1, .float 0] from ?_) rfl rfl ?_
  · rfl
  refine xw_loopP n (fun k => (5, [.ref 60, .int (nI z), .int (nI c), .int (nI k), .int 1, .float 0], [])) (fun k h => ∃ J a, h = (xS b, J, L, xP b) ∧ (∀ q, q ≠ 60 → q ≠ 65 → J q = I q) ∧ (∀ j, j ≠ 5 → J 60 j = I 60 j) ∧ J 60 5 = nI a ∧ xsk T t a = xsk T t (xrp T t p k) ∧ a ≤ t ∧ (∀ j, j < k → J 65 (z + j) = nI (xsc (xlt T t (xrp T t p j)))) ∧ ∀ j, j < z → J 65 j = I 65 j) (fun k h hk hV ih => ?_) (fun h hV => ?_) 0 _ (Nat.zero_le _) ⟨I, a, rfl, fun _ _ _ => rfl, fun _ _ => rfl, h5, hp, ha, fun j hj => absurd hj (Nat.not_lt_zero j), fun _ _ => rfl⟩
  · obtain ⟨J, a, rfl, j1, j2, j3, j4, j5, j6, j7⟩ := hV
    have r1 : xMR T t J := xMR_fr hR (j2 4 (by decide)) (j1 64 (by decide) (by decide))
    have g6 : J 60 6 = 0 := by rw [j2 6 (by decide)]; exact h6
    have fk : xfr9 T t p k = true := nt k hk
    have fc := of_decide_eq_true fk
    have rl : xrp T t p (k + 1) ≤ t := xrp_le hp2 nt (k + 1) (by omega)
    have hkl : k < c := Nat.lt_of_lt_of_le hk nl
    refine xw_go xb_135 2 (f1 := (9, [.ref 60, .int (nI z), .int (nI c), .int (nI k), .int 1, .float 0], [.int (J 60 6)])) (h1 := (xS b, J, L, xP b)) rfl ⟨rfl, trivial⟩ ?_
    refine xw_cong (l' := [.ref 60, .int (nI z), .int (nI c), .int (nI k), .int 1, .float 0]) (st' := [.int 0]) (h' := (xS b, J, L, xP b)) rfl (show ([.int (J 60 6)] : List Value) = [.int 0] from ?_) rfl ?_
    · rw [g6]
    refine xw_go xb_135 4 (f1 := (18, [.ref 60, .int (nI z), .int (nI c), .int (nI k), .int 1, .float 0], [.ref 60])) (h1 := (xS b, J, L, xP b)) rfl trivial ?_
    refine xw_call xb_135 rfl rfl rfl rfl rfl (Or.inr ⟨_, _, rfl, rfl⟩) (m_here (I := J) (a := a) r1 j3 j5) ?_
    rintro _ _ ⟨rfl, rfl⟩
    refine xw_at (f' := (21, [.ref 60, .int (nI z), .int (nI c), .int (nI k), .int 1, .float 0], [.int (nI (xlt T t a))])) (h' := (xS b, xm_up J 60 5 (nI (xsk T t a)), L, xP b)) rfl rfl ?_
    refine xw_cong (l' := [.ref 60, .int (nI z), .int (nI c), .int (nI k), .int 1, .float 0]) (st' := [.int (nI (xlt T t (xrp T t p k)))]) (h' := (xS b, xm_up J 60 5 (nI (xsk T t a)), L, xP b)) rfl (show ([.int (nI (xlt T t a))] : List Value) = [.int (nI (xlt T t (xrp T t p k)))] from ?_) rfl ?_
    · rw [xlt_c j4]
    refine xw_at (f' := (21, [.ref 60, .int (nI z), .int (nI c), .int (nI k), .int 1, .float 0], [.int (nI (xlt T t (xrp T t p k)))])) (h' := (xS b, xm_up J 60 5 (nI (xsk T t (xrp T t p k))), L, xP b)) rfl (show (xS b, xm_up J 60 5 (nI (xsk T t a)), L, xP b) = (xS b, xm_up J 60 5 (nI (xsk T t (xrp T t p k))), L, xP b) from ?_) ?_
    · rw [j4]
    refine xw_call xb_135 rfl rfl rfl rfl rfl (Or.inl rfl) (m_soilOf (l := (xlt T t (xrp T t p k))) (xlt_le hR.2.1) rfl) ?_
    rintro _ _ ⟨rfl, rfl⟩
    refine xw_at (f' := (24, [.ref 60, .int (nI z), .int (nI c), .int (nI k), .int 1, .float 0], [.int (xsv (xlt T t (xrp T t p k)))])) (h' := (xS b, xm_up J 60 5 (nI (xsk T t (xrp T t p k))), L, xP b)) rfl rfl ?_
    refine xw_cong (l' := [.ref 60, .int (nI z), .int (nI c), .int (nI k), .int 1, .float 0]) (st' := [.int (nI (xsc (xlt T t (xrp T t p k))))]) (h' := (xS b, xm_up J 60 5 (nI (xsk T t (xrp T t p k))), L, xP b)) rfl (show ([.int (xsv (xlt T t (xrp T t p k)))] : List Value) = [.int (nI (xsc (xlt T t (xrp T t p k))))] from ?_) rfl ?_
    · unfold xsv
      rw [if_pos fc]
    refine xw_go xb_135 4 (f1 := (if (nI (xsc (xlt T t (xrp T t p k)))) < 0 then 36 else 32, [.ref 60, .int (nI z), .int (nI c), .int (nI k), .int 1, .int (nI (xsc (xlt T t (xrp T t p k))))], [.ref 60])) (h1 := (xS b, xm_up J 60 5 (nI (xsk T t (xrp T t p k))), L, xP b)) rfl trivial ?_
    refine xw_if (fun c_29 => ?_) (fun c_29 => ?_)
    · skip
      exfalso
      rw [xl_0, nI_ltI (by omega) (by omega)] at c_29
      omega
    · skip
      refine xw_go xb_135 2 (f1 := (37, [.ref 60, .int (nI z), .int (nI c), .int (nI k), .int 1, .int (nI (xsc (xlt T t (xrp T t p k))))], [.int 1, .ref 60])) (h1 := (xS b, xm_up J 60 5 (nI (xsk T t (xrp T t p k))), L, xP b)) rfl trivial ?_
      refine xw_call xb_135 rfl rfl rfl rfl rfl (Or.inr ⟨_, _, rfl, rfl⟩) (m_must1 (I := (xm_up J 60 5 (nI (xsk T t (xrp T t p k))))) (a := xsk T t (xrp T t p k)) (by rw [xm_up_ne (Or.inr (by decide))]; exact g6) (xm_up_at _ _ _ _) rfl) ?_
      rintro _ _ ⟨rfl, rfl⟩
      refine xw_at (f' := (40, [.ref 60, .int (nI z), .int (nI c), .int (nI k), .int 1, .int (nI (xsc (xlt T t (xrp T t p k))))], [])) (h' := (xS b, xm_up (xm_up J 60 5 (nI (xsk T t (xrp T t p k)))) 60 5 (nI (xsk T t (xrp T t p k) + 1)), L, xP b)) rfl rfl ?_
      refine xw_at (f' := (40, [.ref 60, .int (nI z), .int (nI c), .int (nI k), .int 1, .int (nI (xsc (xlt T t (xrp T t p k))))], [])) (h' := (xS b, xm_up J 60 5 (nI (xrp T t p (k + 1))), L, xP b)) rfl (show (xS b, xm_up (xm_up J 60 5 (nI (xsk T t (xrp T t p k)))) 60 5 (nI (xsk T t (xrp T t p k) + 1)), L, xP b) = (xS b, xm_up J 60 5 (nI (xrp T t p (k + 1))), L, xP b) from ?_) ?_
      · rw [xup_2]
        rfl
      refine xw_go xb_135 2 (f1 := (44, [.ref 60, .int (nI z), .int (nI c), .int (nI k), .int 1, .int (nI (xsc (xlt T t (xrp T t p k))))], [.int ((xm_up J 60 5 (nI (xrp T t p (k + 1)))) 60 6)])) (h1 := (xS b, xm_up J 60 5 (nI (xrp T t p (k + 1))), L, xP b)) rfl ⟨rfl, trivial⟩ ?_
      refine xw_cong (l' := [.ref 60, .int (nI z), .int (nI c), .int (nI k), .int 1, .int (nI (xsc (xlt T t (xrp T t p k))))]) (st' := [.int 0]) (h' := (xS b, xm_up J 60 5 (nI (xrp T t p (k + 1))), L, xP b)) rfl (show ([.int ((xm_up J 60 5 (nI (xrp T t p (k + 1)))) 60 6)] : List Value) = [.int 0] from ?_) rfl ?_
      · rw [xm_up_ne (Or.inr (by decide)), g6]
      refine xw_go xb_135 6 (f1 := (54, [.ref 60, .int (nI z), .int (nI c), .int (nI k), .int 1, .int (nI (xsc (xlt T t (xrp T t p k))))], [.int ((nI z) + (nI k)), .ref 65])) (h1 := (xS b, xm_up J 60 5 (nI (xrp T t p (k + 1))), L, xP b)) rfl ⟨rfl, trivial⟩ ?_
      refine xw_cong (l' := [.ref 60, .int (nI z), .int (nI c), .int (nI k), .int 1, .int (nI (xsc (xlt T t (xrp T t p k))))]) (st' := [.int (nI (z + k)), .ref 65]) (h' := (xS b, xm_up J 60 5 (nI (xrp T t p (k + 1))), L, xP b)) rfl (show ([.int ((nI z) + (nI k)), .ref 65] : List Value) = [.int (nI (z + k)), .ref 65] from ?_) rfl ?_
      · rw [nI_add]
      refine xw_go xb_135 2 (f1 := (57, [.ref 60, .int (nI z), .int (nI c), .int (nI k), .int 1, .int (nI (xsc (xlt T t (xrp T t p k))))], [])) (h1 := (xS b, xm_up (xm_up J 60 5 (nI (xrp T t p (k + 1)))) 65 (nI (z + k)).toNatClampNeg (nI (xsc (xlt T t (xrp T t p k)))), L, xP b)) rfl ⟨(xn_ar (n := z + k) (N := 64) rfl (by omega) (by decide)), trivial⟩ ?_
      refine xw_at (f' := (57, [.ref 60, .int (nI z), .int (nI c), .int (nI k), .int 1, .int (nI (xsc (xlt T t (xrp T t p k))))], [])) (h' := (xS b, xm_up (xm_up J 60 5 (nI (xrp T t p (k + 1)))) 65 (z + k) (nI (xsc (xlt T t (xrp T t p k)))), L, xP b)) rfl (show (xS b, xm_up (xm_up J 60 5 (nI (xrp T t p (k + 1)))) 65 (nI (z + k)).toNatClampNeg (nI (xsc (xlt T t (xrp T t p k)))), L, xP b) = (xS b, xm_up (xm_up J 60 5 (nI (xrp T t p (k + 1)))) 65 (z + k) (nI (xsc (xlt T t (xrp T t p k)))), L, xP b) from ?_) ?_
      · rw [xn_cl (by omega)]
      refine xw_go xb_135 1 (f1 := (60, [.ref 60, .int (nI z), .int (nI c), .int ((nI k) + 1), .int 1, .int (nI (xsc (xlt T t (xrp T t p k))))], [])) (h1 := (xS b, xm_up (xm_up J 60 5 (nI (xrp T t p (k + 1)))) 65 (z + k) (nI (xsc (xlt T t (xrp T t p k)))), L, xP b)) rfl trivial ?_
      refine xw_cong (l' := [.ref 60, .int (nI z), .int (nI c), .int (nI (k + 1)), .int 1, .int (nI (xsc (xlt T t (xrp T t p k))))]) (st' := []) (h' := (xS b, xm_up (xm_up J 60 5 (nI (xrp T t p (k + 1)))) 65 (z + k) (nI (xsc (xlt T t (xrp T t p k)))), L, xP b)) (show ([.ref 60, .int (nI z), .int (nI c), .int ((nI k) + 1), .int 1, .int (nI (xsc (xlt T t (xrp T t p k))))] : List Value) = [.ref 60, .int (nI z), .int (nI c), .int (nI (k + 1)), .int 1, .int (nI (xsc (xlt T t (xrp T t p k))))] from ?_) rfl rfl ?_
      · rw [nI_1]
      refine xw_go xb_135 2 (f1 := (if (nI c) ≤ 0 then 77 else 64, [.ref 60, .int (nI z), .int (nI c), .int (nI (k + 1)), .int 1, .int (nI (xsc (xlt T t (xrp T t p k))))], [])) (h1 := (xS b, xm_up (xm_up J 60 5 (nI (xrp T t p (k + 1)))) 65 (z + k) (nI (xsc (xlt T t (xrp T t p k)))), L, xP b)) rfl trivial ?_
      refine xw_if (fun c_61 => ?_) (fun c_61 => ?_)
      · skip
        exfalso
        rw [xl_0, nI_leI (by omega) (by omega)] at c_61
        omega
      · skip
        refine xw_go xb_135 3 (f1 := (if (nI c) ≤ (nI (k + 1)) then 73 else 69, [.ref 60, .int (nI z), .int (nI c), .int (nI (k + 1)), .int 1, .int (nI (xsc (xlt T t (xrp T t p k))))], [])) (h1 := (xS b, xm_up (xm_up J 60 5 (nI (xrp T t p (k + 1)))) 65 (z + k) (nI (xsc (xlt T t (xrp T t p k)))), L, xP b)) rfl trivial ?_
        refine xw_if (fun c_66 => ?_) (fun c_66 => ?_)
        · skip
          refine xw_go xb_135 4 (f1 := (5, [.ref 60, .int (nI z), .int (nI c), .int (nI (k + 1)), .int 0, .int (nI (xsc (xlt T t (xrp T t p k))))], [])) (h1 := (xS b, xm_up (xm_up J 60 5 (nI (xrp T t p (k + 1)))) 65 (z + k) (nI (xsc (xlt T t (xrp T t p k)))), L, xP b)) rfl trivial ?_
          refine xw_fg (l0 := [.ref 60, .int (nI z), .int (nI c), .int (nI (k + 1)), .int 0, .float 0]) ⟨Or.inr rfl, Or.inr rfl, Or.inr rfl, Or.inr rfl, Or.inr rfl, Or.inl rfl, trivial⟩ ?_
          try simp (disch := omega) only [nI_leI] at c_66
          exfalso
          omega
        · skip
          refine xw_go xb_135 4 (f1 := (5, [.ref 60, .int (nI z), .int (nI c), .int (nI (k + 1)), .int 1, .int (nI (xsc (xlt T t (xrp T t p k))))], [])) (h1 := (xS b, xm_up (xm_up J 60 5 (nI (xrp T t p (k + 1)))) 65 (z + k) (nI (xsc (xlt T t (xrp T t p k)))), L, xP b)) rfl trivial ?_
          refine xw_fg (l0 := [.ref 60, .int (nI z), .int (nI c), .int (nI (k + 1)), .int 1, .float 0]) ⟨Or.inr rfl, Or.inr rfl, Or.inr rfl, Or.inr rfl, Or.inr rfl, Or.inl rfl, trivial⟩ ?_
          try simp (disch := omega) only [nI_leI] at c_66
          refine xw_cong ?_ rfl rfl (ih _ ⟨_, xrp T t p (k + 1), rfl, fun q h1 h2 => ?_, fun j h1 => ?_, ?_, ?_, ?_, fun j hj => ?_, fun j hj => ?_⟩)
          · rfl
          · rw [xm_up_o h2, xm_up_o h1]
            exact j1 q h1 h2
          · rw [xm_up_o (by decide), xm_up_ne (Or.inr h1)]
            exact j2 j h1
          · rw [xm_up_o (by decide)]
            exact xm_up_at _ _ _ _
          · rfl
          · exact rl
          · by_cases e : j = k
            · subst e
              rw [xm_up_at]
            · rw [xm_up_ne (Or.inr (by omega)), xm_up_o (by decide)]
              exact j6 j (by omega)
          · rw [xm_up_ne (Or.inr (by omega)), xm_up_o (by decide)]
            exact j7 j hj
  · obtain ⟨J, a, rfl, j1, j2, j3, j4, j5, j6, j7⟩ := hV
    have r1 : xMR T t J := xMR_fr hR (j2 4 (by decide)) (j1 64 (by decide) (by decide))
    have g6 : J 60 6 = 0 := by rw [j2 6 (by decide)]; exact h6
    have fc : ¬ xsc (xlt T t (xrp T t p n)) < 3 := fun q => absurd (decide_eq_true q) (by have f9 := nf (by omega); unfold xfr9 at f9; rw [f9]; decide)
    refine xw_go xb_135 2 (f1 := (9, [.ref 60, .int (nI z), .int (nI c), .int (nI n), .int 1, .float 0], [.int (J 60 6)])) (h1 := (xS b, J, L, xP b)) rfl ⟨rfl, trivial⟩ ?_
    refine xw_cong (l' := [.ref 60, .int (nI z), .int (nI c), .int (nI n), .int 1, .float 0]) (st' := [.int 0]) (h' := (xS b, J, L, xP b)) rfl (show ([.int (J 60 6)] : List Value) = [.int 0] from ?_) rfl ?_
    · rw [g6]
    refine xw_go xb_135 4 (f1 := (18, [.ref 60, .int (nI z), .int (nI c), .int (nI n), .int 1, .float 0], [.ref 60])) (h1 := (xS b, J, L, xP b)) rfl trivial ?_
    refine xw_call xb_135 rfl rfl rfl rfl rfl (Or.inr ⟨_, _, rfl, rfl⟩) (m_here (I := J) (a := a) r1 j3 j5) ?_
    rintro _ _ ⟨rfl, rfl⟩
    refine xw_at (f' := (21, [.ref 60, .int (nI z), .int (nI c), .int (nI n), .int 1, .float 0], [.int (nI (xlt T t a))])) (h' := (xS b, xm_up J 60 5 (nI (xsk T t a)), L, xP b)) rfl rfl ?_
    refine xw_cong (l' := [.ref 60, .int (nI z), .int (nI c), .int (nI n), .int 1, .float 0]) (st' := [.int (nI (xlt T t (xrp T t p n)))]) (h' := (xS b, xm_up J 60 5 (nI (xsk T t a)), L, xP b)) rfl (show ([.int (nI (xlt T t a))] : List Value) = [.int (nI (xlt T t (xrp T t p n)))] from ?_) rfl ?_
    · rw [xlt_c j4]
    refine xw_at (f' := (21, [.ref 60, .int (nI z), .int (nI c), .int (nI n), .int 1, .float 0], [.int (nI (xlt T t (xrp T t p n)))])) (h' := (xS b, xm_up J 60 5 (nI (xsk T t (xrp T t p n))), L, xP b)) rfl (show (xS b, xm_up J 60 5 (nI (xsk T t a)), L, xP b) = (xS b, xm_up J 60 5 (nI (xsk T t (xrp T t p n))), L, xP b) from ?_) ?_
    · rw [j4]
    refine xw_call xb_135 rfl rfl rfl rfl rfl (Or.inl rfl) (m_soilOf (l := (xlt T t (xrp T t p n))) (xlt_le hR.2.1) rfl) ?_
    rintro _ _ ⟨rfl, rfl⟩
    refine xw_at (f' := (24, [.ref 60, .int (nI z), .int (nI c), .int (nI n), .int 1, .float 0], [.int (xsv (xlt T t (xrp T t p n)))])) (h' := (xS b, xm_up J 60 5 (nI (xsk T t (xrp T t p n))), L, xP b)) rfl rfl ?_
    refine xw_cong (l' := [.ref 60, .int (nI z), .int (nI c), .int (nI n), .int 1, .float 0]) (st' := [.int (-1)]) (h' := (xS b, xm_up J 60 5 (nI (xsk T t (xrp T t p n))), L, xP b)) rfl (show ([.int (xsv (xlt T t (xrp T t p n)))] : List Value) = [.int (-1)] from ?_) rfl ?_
    · unfold xsv
      rw [if_neg fc]
    refine xw_go xb_135 5 (f1 := (37, [.ref 60, .int (nI z), .int (nI c), .int (nI n), .int 1, .int (-1)], [.int 0, .ref 60])) (h1 := (xS b, xm_up J 60 5 (nI (xsk T t (xrp T t p n))), L, xP b)) rfl trivial ?_
    refine xw_call xb_135 rfl rfl rfl rfl rfl (Or.inr ⟨_, _, rfl, rfl⟩) (m_must0 (I := (xm_up J 60 5 (nI (xsk T t (xrp T t p n))))) (a := xsk T t (xrp T t p n)) (by rw [xm_up_ne (Or.inr (by decide))]; exact g6) (xm_up_at _ _ _ _) rfl) ?_
    rintro _ _ ⟨rfl, rfl⟩
    refine xw_at (f' := (40, [.ref 60, .int (nI z), .int (nI c), .int (nI n), .int 1, .int (-1)], [])) (h' := (xS b, xm_up (xm_up J 60 5 (nI (xsk T t (xrp T t p n)))) 60 6 1, L, xP b)) rfl rfl ?_
    refine xw_go xb_135 2 (f1 := (44, [.ref 60, .int (nI z), .int (nI c), .int (nI n), .int 1, .int (-1)], [.int ((xm_up (xm_up J 60 5 (nI (xsk T t (xrp T t p n)))) 60 6 1) 60 6)])) (h1 := (xS b, xm_up (xm_up J 60 5 (nI (xsk T t (xrp T t p n)))) 60 6 1, L, xP b)) rfl ⟨rfl, trivial⟩ ?_
    refine xw_cong (l' := [.ref 60, .int (nI z), .int (nI c), .int (nI n), .int 1, .int (-1)]) (st' := [.int 1]) (h' := (xS b, xm_up (xm_up J 60 5 (nI (xsk T t (xrp T t p n)))) 60 6 1, L, xP b)) rfl (show ([.int ((xm_up (xm_up J 60 5 (nI (xsk T t (xrp T t p n)))) 60 6 1) 60 6)] : List Value) = [.int 1] from ?_) rfl ?_
    · rw [xm_up_at]
    refine xw_go xb_135 3 (f1 := (if (nI c) ≤ 0 then 77 else 64, [.ref 60, .int (nI z), .int (nI c), .int (nI n), .int 1, .int (-1)], [])) (h1 := (xS b, xm_up (xm_up J 60 5 (nI (xsk T t (xrp T t p n)))) 60 6 1, L, xP b)) rfl trivial ?_
    refine xw_if (fun c_61 => ?_) (fun c_61 => ?_)
    · skip
      exfalso
      rw [xl_0, nI_leI (by omega) (by omega)] at c_61
      omega
    · skip
      refine xw_go xb_135 3 (f1 := (if (nI c) ≤ (nI n) then 73 else 69, [.ref 60, .int (nI z), .int (nI c), .int (nI n), .int 1, .int (-1)], [])) (h1 := (xS b, xm_up (xm_up J 60 5 (nI (xsk T t (xrp T t p n)))) 60 6 1, L, xP b)) rfl trivial ?_
      refine xw_if (fun c_66 => ?_) (fun c_66 => ?_)
      · skip
        exfalso
        rw [nI_leI (by omega) (by omega)] at c_66
        omega
      · skip
        refine xw_go xb_135 4 (f1 := (5, [.ref 60, .int (nI z), .int (nI c), .int (nI n), .int 1, .int (-1)], [])) (h1 := (xS b, xm_up (xm_up J 60 5 (nI (xsk T t (xrp T t p n)))) 60 6 1, L, xP b)) rfl trivial ?_
        refine xw_go xb_135 2 (f1 := (9, [.ref 60, .int (nI z), .int (nI c), .int (nI n), .int 1, .int (-1)], [.int ((xm_up (xm_up J 60 5 (nI (xsk T t (xrp T t p n)))) 60 6 1) 60 6)])) (h1 := (xS b, xm_up (xm_up J 60 5 (nI (xsk T t (xrp T t p n)))) 60 6 1, L, xP b)) rfl ⟨rfl, trivial⟩ ?_
        refine xw_cong (l' := [.ref 60, .int (nI z), .int (nI c), .int (nI n), .int 1, .int (-1)]) (st' := [.int 1]) (h' := (xS b, xm_up (xm_up J 60 5 (nI (xsk T t (xrp T t p n)))) 60 6 1, L, xP b)) rfl (show ([.int ((xm_up (xm_up J 60 5 (nI (xsk T t (xrp T t p n)))) 60 6 1) 60 6)] : List Value) = [.int 1] from ?_) rfl ?_
        · rw [xm_up_at]
        refine xw_go xb_135 2 (f1 := (109, [.ref 60, .int (nI z), .int (nI c), .int (nI n), .int 1, .int (-1)], [.int (nI n)])) (h1 := (xS b, xm_up (xm_up J 60 5 (nI (xsk T t (xrp T t p n)))) 60 6 1, L, xP b)) rfl trivial ?_
        refine xw_ret xb_135 rfl rfl trivial ?_
        refine ⟨_, rfl, _, rfl, fun q h1 h2 => ?_, fun j h1 h2 => ?_, ?_, ?_⟩
        · rw [xm_up_o h1, xm_up_o h1]
          exact j1 q h1 h2
        · rw [xm_up_ne (Or.inr h2), xm_up_ne (Or.inr h1)]
          exact j2 j h1
        · rw [xm_up_ne (Or.inr (by decide)), xm_up_at]
        · rw [xm_up_at]

