/-! ===== the class reads ===== -/
def xRT (T : Nat → Nat) (t : Nat) (I : Nat → Nat → Int32) : Prop := t ≤ 110 ∧ (∀ k, k < t → 32 ≤ T k ∧ T k ≤ 126) ∧ I 43 1 = nI t ∧ ∀ k, k < t → I 42 k = nI (T k)
theorem xRT_fr {T : Nat → Nat} {t : Nat} {I J : Nat → Nat → Int32} (h : xRT T t I) (h1 : J 43 1 = I 43 1) (h2 : J 42 = I 42) : xRT T t J := ⟨h.1, h.2.1, by rw [h1]; exact h.2.2.1, by rw [h2]; exact h.2.2.2⟩
theorem xup_me {α : Type} {I : Nat → Nat → α} {a k : Nat} {v : α} (h : I a k = v) : xm_up I a k v = I := by
  funext x j
  by_cases h1 : x = a
  · subst h1
    by_cases h2 : j = k
    · subst h2
      rw [xm_up_at, h]
    · rw [xm_up_ne (Or.inr h2)]
  · rw [xm_up_o h1]
theorem xdgC {T : Nat → Nat} {t a lo hi : Nat} (hT : ∀ k, k < t → 32 ≤ T k ∧ T k ≤ 126) (hl : lo < 1000) (hh : hi < 1000) : ((nI lo).toInt ≤ (xlC T t a - 48).toInt ∧ (xlC T t a - 48).toInt ≤ (nI hi).toInt) ↔ (48 + lo ≤ xlt T t a ∧ xlt T t a ≤ 48 + hi) := by
  rw [xt_n (by omega), xt_n (by omega)]
  unfold xlC xlt
  by_cases q : xsk T t a < t
  · rw [if_pos q, if_pos q]
    have := hT _ q
    rw [xl_48, xt_sub (by omega) (by omega)]
    omega
  · rw [if_neg q, if_neg q, show ((-1 : Int32) - 48).toInt = -49 from by decide]
    omega
theorem xdgv {T : Nat → Nat} {t a lo : Nat} (h : 48 + lo ≤ xlt T t a) : xlC T t a - 48 = nI (xlt T t a - 48) := by
  have q : xsk T t a < t := xlt_n (by omega)
  unfold xlC
  unfold xlt at h ⊢
  rw [if_pos q] at h ⊢
  rw [if_pos q, xl_48, xn_sub (by omega)]
theorem c_letter {d : Nat} {b : Bool} {I : Nat → Nat → Int32} {L : Nat → Nat → Int64} {T : Nat → Nat} {t : Nat} (hR : xRT T t I) {a : Nat} (ha : I 43 2 = nI a) (al : a ≤ t) : xm_Z (d + 1) 48 [.ref 43] (xS b, I, L, xP b) (fun rz hz => rz = some (.int (xlC T t a)) ∧ hz = (xS b, xm_up I 43 2 (nI (xsk T t a)), L, xP b)) := by
  obtain ⟨h110, hT, h1, hX⟩ := hR
  refine xw_S xb_48 (l := [.ref 43]) (Nat.le_of_ble_eq_true rfl) rfl ?_
  refine xw_at (f' := (0, [.ref 43], [])) (h' := (xS b, xm_up I 43 2 (nI (a + 0)), L, xP b)) rfl (by rw [Nat.add_zero, xup_me ha]) ?_
  refine xw_loop (xsk T t a - a) (fun k => (0, [.ref 43], [])) (fun k => (xS b, xm_up I 43 2 (nI (a + k)), L, xP b)) (fun k hk ih => ?_) ?_ 0 (Nat.zero_le _)
  · have bl := xsk_bl (T := T) (t := t) a (a + k) (by omega) (by omega)
    have tk := hT (a + k) bl.1
    refine xw_go xb_48 2 (f1 := (4, [.ref 43], [.int ((xm_up I 43 2 (nI (a + k))) 43 2)])) (h1 := (xS b, xm_up I 43 2 (nI (a + k)), L, xP b)) rfl ⟨rfl, trivial⟩ ?_
    refine xw_cong (l' := [.ref 43]) (st' := [.int (nI (a + k))]) (h' := (xS b, xm_up I 43 2 (nI (a + k)), L, xP b)) rfl (show ([.int ((xm_up I 43 2 (nI (a + k))) 43 2)] : List Value) = [.int (nI (a + k))] from ?_) rfl ?_
    · rw [xm_up_at]
    refine xw_go xb_48 2 (f1 := (8, [.ref 43], [.int ((xm_up I 43 2 (nI (a + k))) 43 1), .int (nI (a + k))])) (h1 := (xS b, xm_up I 43 2 (nI (a + k)), L, xP b)) rfl ⟨rfl, trivial⟩ ?_
    refine xw_cong (l' := [.ref 43]) (st' := [.int (nI t), .int (nI (a + k))]) (h' := (xS b, xm_up I 43 2 (nI (a + k)), L, xP b)) rfl (show ([.int ((xm_up I 43 2 (nI (a + k))) 43 1), .int (nI (a + k))] : List Value) = [.int (nI t), .int (nI (a + k))] from ?_) rfl ?_
    · rw [xm_up_ne (Or.inr (by decide)), h1]
    refine xw_go xb_48 1 (f1 := (if (nI t) ≤ (nI (a + k)) then 38 else 11, [.ref 43], [])) (h1 := (xS b, xm_up I 43 2 (nI (a + k)), L, xP b)) rfl trivial ?_
    refine xw_if (fun c_8 => ?_) (fun c_8 => ?_)
    · skip
      exfalso
      try simp only [xB_dec, Classical.not_not] at c_8
      try simp (disch := omega) only [xt_eq, xt_lt, xt_le, xkt_0, xkt_1, xkt_2, xkt_3, xkt_4, xkt_5, xkt_6, xkt_7, xkt_8, xkt_9, xkt_10, xkt_11, xkt_12, xkt_13, xkt_14, xkt_16, xkt_20, xkt_24, xkt_31, xkt_32, xkt_40, xkt_44, xkt_47, xkt_48, xkt_57, xkt_59, xkt_60, xkt_63, xkt_64, xkt_65, xkt_72, xkt_95, xkt_99, xkt_100, xkt_101, xkt_103, xkt_110, xkt_112, xkt_113, xkt_114, xkt_119, xkt_126, xkt_159, xkt_576, xkt_999, xkt_9999, xkt_65536, xkt_999999, xkt_m1, xkt_m2, xkt_m3, xkt_m4, xkt_m11, xkt_m12, xkt_m13, xkt_m14, xkt_m20, xjt_0, xjt_1, xjt_2, xjt_3, xjt_4, xjt_5, xjt_6, xjt_7, xjt_8, xjt_9, xjt_10, xjt_11, xjt_12, xjt_13, xjt_14, xjt_16, xjt_20, xjt_24, xjt_31, xjt_32, xjt_40, xjt_44, xjt_47, xjt_48, xjt_57, xjt_59, xjt_60, xjt_63, xjt_64, xjt_65, xjt_72, xjt_95, xjt_99, xjt_100, xjt_101, xjt_103, xjt_110, xjt_112, xjt_113, xjt_114, xjt_119, xjt_126, xjt_159, xjt_576, xjt_999, xjt_9999, xjt_65536, xjt_999999, xt64, xt_n, not_true_eq_false, not_false_eq_true, Classical.not_not] at c_8
      all_goals omega
    · skip
      refine xw_go xb_48 4 (f1 := (19, [.ref 43], [.int ((xm_up I 43 2 (nI (a + k))) 43 2), .ref 42])) (h1 := (xS b, xm_up I 43 2 (nI (a + k)), L, xP b)) rfl ⟨rfl, rfl, trivial⟩ ?_
      refine xw_cong (l' := [.ref 43]) (st' := [.int (nI (a + k)), .ref 42]) (h' := (xS b, xm_up I 43 2 (nI (a + k)), L, xP b)) rfl (show ([.int ((xm_up I 43 2 (nI (a + k))) 43 2), .ref 42] : List Value) = [.int (nI (a + k)), .ref 42] from ?_) rfl ?_
      · rw [xm_up_at]
      refine xw_go xb_48 1 (f1 := (20, [.ref 43], [.int ((xm_up I 43 2 (nI (a + k))) 42 (nI (a + k)).toNatClampNeg)])) (h1 := (xS b, xm_up I 43 2 (nI (a + k)), L, xP b)) rfl ⟨(xn_ar (n := a + k) (N := 110) rfl (by simp (disch := omega) only [nI_ltI, nI_leI] at c_8; omega) (by decide)), trivial⟩ ?_
      refine xw_cong (l' := [.ref 43]) (st' := [.int (nI (T (a + k)))]) (h' := (xS b, xm_up I 43 2 (nI (a + k)), L, xP b)) rfl (show ([.int ((xm_up I 43 2 (nI (a + k))) 42 (nI (a + k)).toNatClampNeg)] : List Value) = [.int (nI (T (a + k)))] from ?_) rfl ?_
      · simp (disch := omega) only [nI_ltI, nI_leI] at c_8
        rw [xm_up_o (by decide), xn_cl (by omega), hX _ (by omega)]
      refine xw_go xb_48 2 (f1 := (if ¬ (nI (T (a + k))) = 32 then 38 else 25, [.ref 43], [])) (h1 := (xS b, xm_up I 43 2 (nI (a + k)), L, xP b)) rfl trivial ?_
      refine xw_if (fun c_22 => ?_) (fun c_22 => ?_)
      · skip
        exfalso
        try simp only [xB_dec, Classical.not_not] at c_8 c_22
        try simp (disch := omega) only [xt_eq, xt_lt, xt_le, xkt_0, xkt_1, xkt_2, xkt_3, xkt_4, xkt_5, xkt_6, xkt_7, xkt_8, xkt_9, xkt_10, xkt_11, xkt_12, xkt_13, xkt_14, xkt_16, xkt_20, xkt_24, xkt_31, xkt_32, xkt_40, xkt_44, xkt_47, xkt_48, xkt_57, xkt_59, xkt_60, xkt_63, xkt_64, xkt_65, xkt_72, xkt_95, xkt_99, xkt_100, xkt_101, xkt_103, xkt_110, xkt_112, xkt_113, xkt_114, xkt_119, xkt_126, xkt_159, xkt_576, xkt_999, xkt_9999, xkt_65536, xkt_999999, xkt_m1, xkt_m2, xkt_m3, xkt_m4, xkt_m11, xkt_m12, xkt_m13, xkt_m14, xkt_m20, xjt_0, xjt_1, xjt_2, xjt_3, xjt_4, xjt_5, xjt_6, xjt_7, xjt_8, xjt_9, xjt_10, xjt_11, xjt_12, xjt_13, xjt_14, xjt_16, xjt_20, xjt_24, xjt_31, xjt_32, xjt_40, xjt_44, xjt_47, xjt_48, xjt_57, xjt_59, xjt_60, xjt_63, xjt_64, xjt_65, xjt_72, xjt_95, xjt_99, xjt_100, xjt_101, xjt_103, xjt_110, xjt_112, xjt_113, xjt_114, xjt_119, xjt_126, xjt_159, xjt_576, xjt_999, xjt_9999, xjt_65536, xjt_999999, xt64, xt_n, not_true_eq_false, not_false_eq_true, Classical.not_not] at c_8 c_22
        all_goals omega
      · skip
        refine xw_go xb_48 7 (f1 := (0, [.ref 43], [])) (h1 := (xS b, xm_up (xm_up I 43 2 (nI (a + k))) 43 2 (((xm_up I 43 2 (nI (a + k))) 43 2) + 1), L, xP b)) rfl ⟨rfl, rfl, trivial⟩ ?_
        refine xw_cong rfl rfl ?_ ih
        rw [xm_up_at, nI_1, xup_2, Nat.add_assoc]
  · have se := xsk_end (T := T) (t := t) a
    have sl := xsk_le (T := T) (t := t) al
    have sg := xsk_ge (T := T) (t := t) a
    refine xw_at (f' := (0, [.ref 43], [])) (h' := (xS b, xm_up I 43 2 (nI (xsk T t a)), L, xP b)) rfl (by rw [show a + (xsk T t a - a) = xsk T t a by omega]) ?_
    unfold xlC
    generalize xsk T t a = e at se sl sg ⊢
    have te : e < t → 32 ≤ T e ∧ T e ≤ 126 := fun q => hT e q
    refine xw_go xb_48 2 (f1 := (4, [.ref 43], [.int ((xm_up I 43 2 (nI e)) 43 2)])) (h1 := (xS b, xm_up I 43 2 (nI e), L, xP b)) rfl ⟨rfl, trivial⟩ ?_
    refine xw_cong (l' := [.ref 43]) (st' := [.int (nI e)]) (h' := (xS b, xm_up I 43 2 (nI e), L, xP b)) rfl (show ([.int ((xm_up I 43 2 (nI e)) 43 2)] : List Value) = [.int (nI e)] from ?_) rfl ?_
    · rw [xm_up_at]
    refine xw_go xb_48 2 (f1 := (8, [.ref 43], [.int ((xm_up I 43 2 (nI e)) 43 1), .int (nI e)])) (h1 := (xS b, xm_up I 43 2 (nI e), L, xP b)) rfl ⟨rfl, trivial⟩ ?_
    refine xw_cong (l' := [.ref 43]) (st' := [.int (nI t), .int (nI e)]) (h' := (xS b, xm_up I 43 2 (nI e), L, xP b)) rfl (show ([.int ((xm_up I 43 2 (nI e)) 43 1), .int (nI e)] : List Value) = [.int (nI t), .int (nI e)] from ?_) rfl ?_
    · rw [xm_up_ne (Or.inr (by decide)), h1]
    refine xw_go xb_48 1 (f1 := (if (nI t) ≤ (nI e) then 38 else 11, [.ref 43], [])) (h1 := (xS b, xm_up I 43 2 (nI e), L, xP b)) rfl trivial ?_
    refine xw_if (fun c_8 => ?_) (fun c_8 => ?_)
    · skip
      refine xw_go xb_48 2 (f1 := (42, [.ref 43], [.int ((xm_up I 43 2 (nI e)) 43 2)])) (h1 := (xS b, xm_up I 43 2 (nI e), L, xP b)) rfl ⟨rfl, trivial⟩ ?_
      refine xw_cong (l' := [.ref 43]) (st' := [.int (nI e)]) (h' := (xS b, xm_up I 43 2 (nI e), L, xP b)) rfl (show ([.int ((xm_up I 43 2 (nI e)) 43 2)] : List Value) = [.int (nI e)] from ?_) rfl ?_
      · rw [xm_up_at]
      refine xw_go xb_48 2 (f1 := (46, [.ref 43], [.int ((xm_up I 43 2 (nI e)) 43 1), .int (nI e)])) (h1 := (xS b, xm_up I 43 2 (nI e), L, xP b)) rfl ⟨rfl, trivial⟩ ?_
      refine xw_cong (l' := [.ref 43]) (st' := [.int (nI t), .int (nI e)]) (h' := (xS b, xm_up I 43 2 (nI e), L, xP b)) rfl (show ([.int ((xm_up I 43 2 (nI e)) 43 1), .int (nI e)] : List Value) = [.int (nI t), .int (nI e)] from ?_) rfl ?_
      · rw [xm_up_ne (Or.inr (by decide)), h1]
      refine xw_go xb_48 1 (f1 := (if (nI t) ≤ (nI e) then 61 else 49, [.ref 43], [])) (h1 := (xS b, xm_up I 43 2 (nI e), L, xP b)) rfl trivial ?_
      refine xw_if (fun c_46 => ?_) (fun c_46 => ?_)
      · skip
        refine xw_go xb_48 1 (f1 := (62, [.ref 43], [.int (-1)])) (h1 := (xS b, xm_up I 43 2 (nI e), L, xP b)) rfl trivial ?_
        refine xw_ret xb_48 rfl rfl trivial ?_
        simp (disch := omega) only [nI_leI] at c_46
        rw [if_neg (by omega)]
        exact ⟨rfl, rfl⟩
      · skip
        refine xw_go xb_48 4 (f1 := (57, [.ref 43], [.int ((xm_up I 43 2 (nI e)) 43 2), .ref 42])) (h1 := (xS b, xm_up I 43 2 (nI e), L, xP b)) rfl ⟨rfl, rfl, trivial⟩ ?_
        refine xw_cong (l' := [.ref 43]) (st' := [.int (nI e), .ref 42]) (h' := (xS b, xm_up I 43 2 (nI e), L, xP b)) rfl (show ([.int ((xm_up I 43 2 (nI e)) 43 2), .ref 42] : List Value) = [.int (nI e), .ref 42] from ?_) rfl ?_
        · rw [xm_up_at]
        refine xw_go xb_48 1 (f1 := (58, [.ref 43], [.int ((xm_up I 43 2 (nI e)) 42 (nI e).toNatClampNeg)])) (h1 := (xS b, xm_up I 43 2 (nI e), L, xP b)) rfl ⟨(xn_ar (n := e) (N := 110) rfl (by simp (disch := omega) only [nI_ltI, nI_leI] at c_46; omega) (by decide)), trivial⟩ ?_
        refine xw_cong (l' := [.ref 43]) (st' := [.int (nI (T e))]) (h' := (xS b, xm_up I 43 2 (nI e), L, xP b)) rfl (show ([.int ((xm_up I 43 2 (nI e)) 42 (nI e).toNatClampNeg)] : List Value) = [.int (nI (T e))] from ?_) rfl ?_
        · simp (disch := omega) only [nI_ltI, nI_leI] at c_46
          rw [xm_up_o (by decide), xn_cl (by omega), hX _ (by omega)]
        refine xw_go xb_48 1 (f1 := (62, [.ref 43], [.int (nI (T e))])) (h1 := (xS b, xm_up I 43 2 (nI e), L, xP b)) rfl trivial ?_
        refine xw_ret xb_48 rfl rfl trivial ?_
        simp (disch := omega) only [nI_leI] at c_46
        rw [if_pos (by omega)]
        exact ⟨rfl, rfl⟩
    · skip
      refine xw_go xb_48 4 (f1 := (19, [.ref 43], [.int ((xm_up I 43 2 (nI e)) 43 2), .ref 42])) (h1 := (xS b, xm_up I 43 2 (nI e), L, xP b)) rfl ⟨rfl, rfl, trivial⟩ ?_
      refine xw_cong (l' := [.ref 43]) (st' := [.int (nI e), .ref 42]) (h' := (xS b, xm_up I 43 2 (nI e), L, xP b)) rfl (show ([.int ((xm_up I 43 2 (nI e)) 43 2), .ref 42] : List Value) = [.int (nI e), .ref 42] from ?_) rfl ?_
      · rw [xm_up_at]
      refine xw_go xb_48 1 (f1 := (20, [.ref 43], [.int ((xm_up I 43 2 (nI e)) 42 (nI e).toNatClampNeg)])) (h1 := (xS b, xm_up I 43 2 (nI e), L, xP b)) rfl ⟨(xn_ar (n := e) (N := 110) rfl (by simp (disch := omega) only [nI_ltI, nI_leI] at c_8; omega) (by decide)), trivial⟩ ?_
      refine xw_cong (l' := [.ref 43]) (st' := [.int (nI (T e))]) (h' := (xS b, xm_up I 43 2 (nI e), L, xP b)) rfl (show ([.int ((xm_up I 43 2 (nI e)) 42 (nI e).toNatClampNeg)] : List Value) = [.int (nI (T e))] from ?_) rfl ?_
      · simp (disch := omega) only [nI_ltI, nI_leI] at c_8
        rw [xm_up_o (by decide), xn_cl (by omega), hX _ (by omega)]
      refine xw_go xb_48 2 (f1 := (if ¬ (nI (T e)) = 32 then 38 else 25, [.ref 43], [])) (h1 := (xS b, xm_up I 43 2 (nI e), L, xP b)) rfl trivial ?_
      refine xw_if (fun c_22 => ?_) (fun c_22 => ?_)
      · skip
        refine xw_go xb_48 2 (f1 := (42, [.ref 43], [.int ((xm_up I 43 2 (nI e)) 43 2)])) (h1 := (xS b, xm_up I 43 2 (nI e), L, xP b)) rfl ⟨rfl, trivial⟩ ?_
        refine xw_cong (l' := [.ref 43]) (st' := [.int (nI e)]) (h' := (xS b, xm_up I 43 2 (nI e), L, xP b)) rfl (show ([.int ((xm_up I 43 2 (nI e)) 43 2)] : List Value) = [.int (nI e)] from ?_) rfl ?_
        · rw [xm_up_at]
        refine xw_go xb_48 2 (f1 := (46, [.ref 43], [.int ((xm_up I 43 2 (nI e)) 43 1), .int (nI e)])) (h1 := (xS b, xm_up I 43 2 (nI e), L, xP b)) rfl ⟨rfl, trivial⟩ ?_
        refine xw_cong (l' := [.ref 43]) (st' := [.int (nI t), .int (nI e)]) (h' := (xS b, xm_up I 43 2 (nI e), L, xP b)) rfl (show ([.int ((xm_up I 43 2 (nI e)) 43 1), .int (nI e)] : List Value) = [.int (nI t), .int (nI e)] from ?_) rfl ?_
        · rw [xm_up_ne (Or.inr (by decide)), h1]
        refine xw_go xb_48 1 (f1 := (if (nI t) ≤ (nI e) then 61 else 49, [.ref 43], [])) (h1 := (xS b, xm_up I 43 2 (nI e), L, xP b)) rfl trivial ?_
        refine xw_if (fun c_46 => ?_) (fun c_46 => ?_)
        · skip
          refine xw_go xb_48 1 (f1 := (62, [.ref 43], [.int (-1)])) (h1 := (xS b, xm_up I 43 2 (nI e), L, xP b)) rfl trivial ?_
          refine xw_ret xb_48 rfl rfl trivial ?_
          simp (disch := omega) only [nI_leI] at c_46
          rw [if_neg (by omega)]
          exact ⟨rfl, rfl⟩
        · skip
          refine xw_go xb_48 4 (f1 := (57, [.ref 43], [.int ((xm_up I 43 2 (nI e)) 43 2), .ref 42])) (h1 := (xS b, xm_up I 43 2 (nI e), L, xP b)) rfl ⟨rfl, rfl, trivial⟩ ?_
          refine xw_cong (l' := [.ref 43]) (st' := [.int (nI e), .ref 42]) (h' := (xS b, xm_up I 43 2 (nI e), L, xP b)) rfl (show ([.int ((xm_up I 43 2 (nI e)) 43 2), .ref 42] : List Value) = [.int (nI e), .ref 42] from ?_) rfl ?_
          · rw [xm_up_at]
          refine xw_go xb_48 1 (f1 := (58, [.ref 43], [.int ((xm_up I 43 2 (nI e)) 42 (nI e).toNatClampNeg)])) (h1 := (xS b, xm_up I 43 2 (nI e), L, xP b)) rfl ⟨(xn_ar (n := e) (N := 110) rfl (by simp (disch := omega) only [nI_ltI, nI_leI] at c_46; omega) (by decide)), trivial⟩ ?_
          refine xw_cong (l' := [.ref 43]) (st' := [.int (nI (T e))]) (h' := (xS b, xm_up I 43 2 (nI e), L, xP b)) rfl (show ([.int ((xm_up I 43 2 (nI e)) 42 (nI e).toNatClampNeg)] : List Value) = [.int (nI (T e))] from ?_) rfl ?_
          · simp (disch := omega) only [nI_ltI, nI_leI] at c_46
            rw [xm_up_o (by decide), xn_cl (by omega), hX _ (by omega)]
          refine xw_go xb_48 1 (f1 := (62, [.ref 43], [.int (nI (T e))])) (h1 := (xS b, xm_up I 43 2 (nI e), L, xP b)) rfl trivial ?_
          refine xw_ret xb_48 rfl rfl trivial ?_
          simp (disch := omega) only [nI_leI] at c_46
          rw [if_pos (by omega)]
          exact ⟨rfl, rfl⟩
      · skip
        exfalso
        simp (disch := omega) only [nI_ltI, nI_leI] at c_8
        have := te (by omega)
        rw [Classical.not_not, xl_32, nI_eq (by omega) (by omega)] at c_22
        exact se ⟨by omega, c_22⟩

theorem c_soilOf {d : Nat} {b : Bool} {I : Nat → Nat → Int32} {L : Nat → Nat → Int64} {T : Nat → Nat} {t a : Nat} (hT : ∀ k, k < t → 32 ≤ T k ∧ T k ≤ 126) {x : Int32} (e_x : x = xlC T t a) : xm_Z (d + 1) 49 [.int x] (xS b, I, L, xP b) (fun rz hz => rz = some (.int (xsv (xlt T t a))) ∧ hz = (xS b, I, L, xP b)) := by
  subst e_x
  refine xw_S xb_49 (l := [.int (xlC T t a)]) (Nat.le_of_ble_eq_true rfl) rfl ?_
  refine xw_go xb_49 2 (f1 := (xm_sw [(99, 38), (103, 36), (112, 40)] 42 (xlC T t a), [.int (xlC T t a)], [])) (h1 := (xS b, I, L, xP b)) rfl trivial ?_
  refine xw_if (fun c_1_0 => ?_) (fun c_1_0 => ?_)
  · skip
    refine xw_go xb_49 1 (f1 := (39, [.int (xlC T t a)], [.int 1])) (h1 := (xS b, I, L, xP b)) rfl trivial ?_
    refine xw_ret xb_49 rfl rfl trivial ?_
    refine ⟨xm_some (congrArg Value.int ?_), rfl⟩
    simp (disch := decide) only [xl_99, xl_103, xl_112, xlC_eq hT] at c_1_0
    unfold xsv xsc
    rw [c_1_0]
    rfl
  refine xw_if (fun c_1_1 => ?_) (fun c_1_1 => ?_)
  · skip
    refine xw_go xb_49 1 (f1 := (37, [.int (xlC T t a)], [.int 0])) (h1 := (xS b, I, L, xP b)) rfl trivial ?_
    refine xw_ret xb_49 rfl rfl trivial ?_
    refine ⟨xm_some (congrArg Value.int ?_), rfl⟩
    simp (disch := decide) only [xl_99, xl_103, xl_112, xlC_eq hT] at c_1_0 c_1_1
    unfold xsv xsc
    rw [c_1_1]
    rfl
  refine xw_if (fun c_1_2 => ?_) (fun c_1_2 => ?_)
  · skip
    refine xw_go xb_49 1 (f1 := (41, [.int (xlC T t a)], [.int 2])) (h1 := (xS b, I, L, xP b)) rfl trivial ?_
    refine xw_ret xb_49 rfl rfl trivial ?_
    refine ⟨xm_some (congrArg Value.int ?_), rfl⟩
    simp (disch := decide) only [xl_99, xl_103, xl_112, xlC_eq hT] at c_1_0 c_1_1 c_1_2
    unfold xsv xsc
    rw [c_1_2]
    rfl
  refine xw_at (f' := (42, [.int (xlC T t a)], [])) (h' := (xS b, I, L, xP b)) rfl rfl ?_
  refine xw_go xb_49 1 (f1 := (43, [.int (xlC T t a)], [.int (-1)])) (h1 := (xS b, I, L, xP b)) rfl trivial ?_
  refine xw_ret xb_49 rfl rfl trivial ?_
  refine ⟨xm_some (congrArg Value.int ?_), rfl⟩
  simp (disch := decide) only [xl_99, xl_103, xl_112, xlC_eq hT] at c_1_0 c_1_1 c_1_2
  unfold xsv xsc
  simp only [c_1_0, c_1_1, c_1_2, if_false]
  rfl

theorem c_kindOf {d : Nat} {b : Bool} {I : Nat → Nat → Int32} {L : Nat → Nat → Int64} {T : Nat → Nat} {t a : Nat} (hT : ∀ k, k < t → 32 ≤ T k ∧ T k ≤ 126) {x : Int32} (e_x : x = xlC T t a) : xm_Z (d + 1) 52 [.int x] (xS b, I, L, xP b) (fun rz hz => rz = some (.int (xkv (xlt T t a))) ∧ hz = (xS b, I, L, xP b)) := by
  subst e_x
  refine xw_S xb_52 (l := [.int (xlC T t a)]) (Nat.le_of_ble_eq_true rfl) rfl ?_
  refine xw_go xb_52 2 (f1 := (xm_sw [(100, 58), (101, 54), (113, 56), (114, 52), (119, 60)] 62 (xlC T t a), [.int (xlC T t a)], [])) (h1 := (xS b, I, L, xP b)) rfl trivial ?_
  refine xw_if (fun c_1_0 => ?_) (fun c_1_0 => ?_)
  · skip
    refine xw_go xb_52 1 (f1 := (59, [.int (xlC T t a)], [.int 3])) (h1 := (xS b, I, L, xP b)) rfl trivial ?_
    refine xw_ret xb_52 rfl rfl trivial ?_
    refine ⟨xm_some (congrArg Value.int ?_), rfl⟩
    simp (disch := decide) only [xl_100, xl_101, xl_113, xl_114, xl_119, xlC_eq hT] at c_1_0
    unfold xkv xkc
    rw [c_1_0]
    rfl
  refine xw_if (fun c_1_1 => ?_) (fun c_1_1 => ?_)
  · skip
    refine xw_go xb_52 1 (f1 := (55, [.int (xlC T t a)], [.int 1])) (h1 := (xS b, I, L, xP b)) rfl trivial ?_
    refine xw_ret xb_52 rfl rfl trivial ?_
    refine ⟨xm_some (congrArg Value.int ?_), rfl⟩
    simp (disch := decide) only [xl_100, xl_101, xl_113, xl_114, xl_119, xlC_eq hT] at c_1_0 c_1_1
    unfold xkv xkc
    rw [c_1_1]
    rfl
  refine xw_if (fun c_1_2 => ?_) (fun c_1_2 => ?_)
  · skip
    refine xw_go xb_52 1 (f1 := (57, [.int (xlC T t a)], [.int 2])) (h1 := (xS b, I, L, xP b)) rfl trivial ?_
    refine xw_ret xb_52 rfl rfl trivial ?_
    refine ⟨xm_some (congrArg Value.int ?_), rfl⟩
    simp (disch := decide) only [xl_100, xl_101, xl_113, xl_114, xl_119, xlC_eq hT] at c_1_0 c_1_1 c_1_2
    unfold xkv xkc
    rw [c_1_2]
    rfl
  refine xw_if (fun c_1_3 => ?_) (fun c_1_3 => ?_)
  · skip
    refine xw_go xb_52 1 (f1 := (53, [.int (xlC T t a)], [.int 0])) (h1 := (xS b, I, L, xP b)) rfl trivial ?_
    refine xw_ret xb_52 rfl rfl trivial ?_
    refine ⟨xm_some (congrArg Value.int ?_), rfl⟩
    simp (disch := decide) only [xl_100, xl_101, xl_113, xl_114, xl_119, xlC_eq hT] at c_1_0 c_1_1 c_1_2 c_1_3
    unfold xkv xkc
    rw [c_1_3]
    rfl
  refine xw_if (fun c_1_4 => ?_) (fun c_1_4 => ?_)
  · skip
    refine xw_go xb_52 1 (f1 := (61, [.int (xlC T t a)], [.int 4])) (h1 := (xS b, I, L, xP b)) rfl trivial ?_
    refine xw_ret xb_52 rfl rfl trivial ?_
    refine ⟨xm_some (congrArg Value.int ?_), rfl⟩
    simp (disch := decide) only [xl_100, xl_101, xl_113, xl_114, xl_119, xlC_eq hT] at c_1_0 c_1_1 c_1_2 c_1_3 c_1_4
    unfold xkv xkc
    rw [c_1_4]
    rfl
  refine xw_at (f' := (62, [.int (xlC T t a)], [])) (h' := (xS b, I, L, xP b)) rfl rfl ?_
  refine xw_go xb_52 1 (f1 := (63, [.int (xlC T t a)], [.int (-1)])) (h1 := (xS b, I, L, xP b)) rfl trivial ?_
  refine xw_ret xb_52 rfl rfl trivial ?_
  refine ⟨xm_some (congrArg Value.int ?_), rfl⟩
  simp (disch := decide) only [xl_100, xl_101, xl_113, xl_114, xl_119, xlC_eq hT] at c_1_0 c_1_1 c_1_2 c_1_3 c_1_4
  unfold xkv xkc
  simp only [c_1_0, c_1_1, c_1_2, c_1_3, c_1_4, if_false]
  rfl

theorem c_digit1 {d : Nat} {b : Bool} {I : Nat → Nat → Int32} {L : Nat → Nat → Int64} {T : Nat → Nat} {t : Nat} (hR : xRT T t I) {a lo hi : Nat} (ha : I 43 2 = nI a) (al : a ≤ t) (bl : lo < 1000) (bh : hi < 1000) (hd : 48 + lo ≤ xlt T t a ∧ xlt T t a ≤ 48 + hi) {x : Int32} (e_x : x = nI lo) {y : Int32} (e_y : y = nI hi) : xm_Z (d + 2) 53 [.ref 43, .int x, .int y] (xS b, I, L, xP b) (fun rz hz => rz = some (.int (nI (xlt T t a - 48))) ∧ hz = (xS b, xm_up I 43 2 (nI (xsk T t a + 1)), L, xP b)) := by
  subst e_x
  subst e_y
  refine xw_S xb_53 (l := [.ref 43, .int (nI lo), .int (nI hi), .float 0]) (Nat.le_of_ble_eq_true rfl) rfl ?_
  refine xw_go xb_53 1 (f1 := (1, [.ref 43, .int (nI lo), .int (nI hi), .float 0], [.ref 43])) (h1 := (xS b, I, L, xP b)) rfl trivial ?_
  refine xw_call xb_53 rfl rfl rfl rfl rfl (Or.inr ⟨_, _, rfl, rfl⟩) (c_letter (I := I) (a := a) hR ha al) ?_
  rintro _ _ ⟨rfl, rfl⟩
  refine xw_at (f' := (4, [.ref 43, .int (nI lo), .int (nI hi), .float 0], [.int (xlC T t a)])) (h' := (xS b, xm_up I 43 2 (nI (xsk T t a)), L, xP b)) rfl rfl ?_
  refine xw_go xb_53 6 (f1 := (11, [.ref 43, .int (nI lo), .int (nI hi), .int ((xlC T t a) - 48)], [.int (nI hi), .int (nI lo), .int ((xlC T t a) - 48)])) (h1 := (xS b, xm_up I 43 2 (nI (xsk T t a)), L, xP b)) rfl trivial ?_
  refine xw_call xb_53 rfl rfl rfl rfl rfl (Or.inl rfl) c_within ?_
  rintro _ _ ⟨rfl, rfl⟩
  refine xw_at (f' := (14, [.ref 43, .int (nI lo), .int (nI hi), .int ((xlC T t a) - 48)], [.int (nI (xB (decide ((nI lo).toInt ≤ (xlC T t a - 48).toInt ∧ (xlC T t a - 48).toInt ≤ (nI hi).toInt))))])) (h' := (xS b, xm_up I 43 2 (nI (xsk T t a)), L, xP b)) rfl rfl ?_
  refine xw_go xb_53 1 (f1 := (if ¬ (nI (xB (decide ((nI lo).toInt ≤ (xlC T t a - 48).toInt ∧ (xlC T t a - 48).toInt ≤ (nI hi).toInt)))) = 0 then 19 else 17, [.ref 43, .int (nI lo), .int (nI hi), .int ((xlC T t a) - 48)], [])) (h1 := (xS b, xm_up I 43 2 (nI (xsk T t a)), L, xP b)) rfl trivial ?_
  refine xw_if (fun c_14 => ?_) (fun c_14 => ?_)
  · skip
    refine xw_go xb_53 7 (f1 := (30, [.ref 43, .int (nI lo), .int (nI hi), .int ((xlC T t a) - 48)], [.int ((xlC T t a) - 48)])) (h1 := (xS b, xm_up (xm_up I 43 2 (nI (xsk T t a))) 43 2 (((xm_up I 43 2 (nI (xsk T t a))) 43 2) + 1), L, xP b)) rfl ⟨rfl, rfl, trivial⟩ ?_
    refine xw_ret xb_53 rfl rfl trivial ?_
    rw [xm_up_at, nI_1, xup_2, xdgv hd.1]
    exact ⟨rfl, rfl⟩
  · skip
    exfalso
    rw [xB_dec, xdgC hR.2.1 bl bh] at c_14
    exact c_14 (fun q => q hd)

theorem c_digit0 {d : Nat} {b : Bool} {I : Nat → Nat → Int32} {L : Nat → Nat → Int64} {T : Nat → Nat} {t : Nat} (hR : xRT T t I) {a lo hi : Nat} (ha : I 43 2 = nI a) (al : a ≤ t) (bl : lo < 1000) (bh : hi < 1000) (hd : ¬ (48 + lo ≤ xlt T t a ∧ xlt T t a ≤ 48 + hi)) {x : Int32} (e_x : x = nI lo) {y : Int32} (e_y : y = nI hi) : xm_Z (d + 2) 53 [.ref 43, .int x, .int y] (xS b, I, L, xP b) (fun rz hz => rz = some (.int (-1)) ∧ hz = (xS b, xm_up I 43 2 (nI (xsk T t a)), L, xP b)) := by
  subst e_x
  subst e_y
  refine xw_S xb_53 (l := [.ref 43, .int (nI lo), .int (nI hi), .float 0]) (Nat.le_of_ble_eq_true rfl) rfl ?_
  refine xw_go xb_53 1 (f1 := (1, [.ref 43, .int (nI lo), .int (nI hi), .float 0], [.ref 43])) (h1 := (xS b, I, L, xP b)) rfl trivial ?_
  refine xw_call xb_53 rfl rfl rfl rfl rfl (Or.inr ⟨_, _, rfl, rfl⟩) (c_letter (I := I) (a := a) hR ha al) ?_
  rintro _ _ ⟨rfl, rfl⟩
  refine xw_at (f' := (4, [.ref 43, .int (nI lo), .int (nI hi), .float 0], [.int (xlC T t a)])) (h' := (xS b, xm_up I 43 2 (nI (xsk T t a)), L, xP b)) rfl rfl ?_
  refine xw_go xb_53 6 (f1 := (11, [.ref 43, .int (nI lo), .int (nI hi), .int ((xlC T t a) - 48)], [.int (nI hi), .int (nI lo), .int ((xlC T t a) - 48)])) (h1 := (xS b, xm_up I 43 2 (nI (xsk T t a)), L, xP b)) rfl trivial ?_
  refine xw_call xb_53 rfl rfl rfl rfl rfl (Or.inl rfl) c_within ?_
  rintro _ _ ⟨rfl, rfl⟩
  refine xw_at (f' := (14, [.ref 43, .int (nI lo), .int (nI hi), .int ((xlC T t a) - 48)], [.int (nI (xB (decide ((nI lo).toInt ≤ (xlC T t a - 48).toInt ∧ (xlC T t a - 48).toInt ≤ (nI hi).toInt))))])) (h' := (xS b, xm_up I 43 2 (nI (xsk T t a)), L, xP b)) rfl rfl ?_
  refine xw_go xb_53 1 (f1 := (if ¬ (nI (xB (decide ((nI lo).toInt ≤ (xlC T t a - 48).toInt ∧ (xlC T t a - 48).toInt ≤ (nI hi).toInt)))) = 0 then 19 else 17, [.ref 43, .int (nI lo), .int (nI hi), .int ((xlC T t a) - 48)], [])) (h1 := (xS b, xm_up I 43 2 (nI (xsk T t a)), L, xP b)) rfl trivial ?_
  refine xw_if (fun c_14 => ?_) (fun c_14 => ?_)
  · skip
    exfalso
    rw [xB_dec, xdgC hR.2.1 bl bh, Classical.not_not] at c_14
    exact hd c_14
  · skip
    refine xw_go xb_53 1 (f1 := (18, [.ref 43, .int (nI lo), .int (nI hi), .int ((xlC T t a) - 48)], [.int (-1)])) (h1 := (xS b, xm_up I 43 2 (nI (xsk T t a)), L, xP b)) rfl trivial ?_
    refine xw_ret xb_53 rfl rfl trivial ?_
    exact ⟨rfl, rfl⟩

theorem c_row1 {d : Nat} {b : Bool} {I : Nat → Nat → Int32} {L : Nat → Nat → Int64} {T : Nat → Nat} {t : Nat} (hR : xRT T t I) {r c z p a lim : Nat} (h3 : I 43 3 = nI r) (h5 : I 43 5 = nI z) (h2 : I 43 2 = nI a) (ha : a ≤ t) (hp : xsk T t a = xsk T t p) (hp2 : p ≤ t) (hr1 : r = 1) (hlim : lim = 8) (hz : z + lim ≤ 64) {n : Nat} (hn : n = xld (xfr9 T t p) lim)  : xm_Z (d + 2) 47 [.ref 43] (xS b, I, L, xP b) (fun rz hz => rz = some (.int (nI (xB (decide (2 ≤ n))))) ∧ ∃ I', hz = (xS b, I', L, xP b) ∧ (∀ a, a ≠ 43 → a ≠ 44 → I' a = I a) ∧ I' 43 2 = nI (xsk T t (xrp T t p n)) ∧ I' 43 4 = nI n ∧ I' 43 5 = nI (z + n) ∧ (∀ k, k ≠ 2 → k ≠ 4 → k ≠ 5 → I' 43 k = I 43 k) ∧ (∀ j, j < n → I' 44 (z + j) = nI (xsc (xlt T t (xrp T t p j)))) ∧ ∀ j, j < z → I' 44 j = I 44 j) := by
  have nl : n ≤ lim := by rw [hn]; exact xld_le _ _
  have nt : ∀ j, j < n → xfr9 T t p j = true := fun j hj => xld_t lim j (by rw [← hn]; exact hj)
  have nf : n < lim → xfr9 T t p n = false := fun q => by rw [hn]; exact xld_f lim (by rw [← hn]; exact q)
  refine xw_S xb_47 (l := [.ref 43, .float 0, .float 0, .float 0]) (Nat.le_of_ble_eq_true rfl) rfl ?_
  refine xw_go xb_47 4 (f1 := (if ¬ (I 43 3) = 1 then 13 else 8, [.ref 43, .float 0, .float 0, .float 0], [])) (h1 := (xS b, I, L, xP b)) rfl ⟨rfl, trivial⟩ ?_
  refine xw_if (fun c_5 => ?_) (fun c_5 => ?_)
  · skip
    exfalso
    rw [h3, hr1] at c_5
    exact c_5 rfl
  · skip
    refine xw_go xb_47 2 (f1 := (17, [.ref 43, .float 0, .float 0, .float 0], [.int 8])) (h1 := (xS b, I, L, xP b)) rfl trivial ?_
    refine xw_cong (l' := [.ref 43, .float 0, .float 0, .float 0]) (st' := [.int (nI lim)]) (h' := (xS b, I, L, xP b)) rfl (show ([.int 8] : List Value) = [.int (nI lim)] from ?_) rfl ?_
    · rw [hlim, xl_8]
    refine xw_go xb_47 4 (f1 := (21, [.ref 43, .int (nI lim), .int 0, .float 0], [.ref 43])) (h1 := (xS b, I, L, xP b)) rfl trivial ?_
    refine xw_call xb_47 rfl rfl rfl rfl rfl (Or.inr ⟨_, _, rfl, rfl⟩) (c_letter (I := I) (a := a) hR h2 ha) ?_
    rintro _ _ ⟨rfl, rfl⟩
    refine xw_at (f' := (24, [.ref 43, .int (nI lim), .int 0, .float 0], [.int (xlC T t a)])) (h' := (xS b, xm_up I 43 2 (nI (xsk T t a)), L, xP b)) rfl rfl ?_
    refine xw_call xb_47 rfl rfl rfl rfl rfl (Or.inl rfl) (c_soilOf (a := a) hR.2.1 rfl) ?_
    rintro _ _ ⟨rfl, rfl⟩
    refine xw_at (f' := (27, [.ref 43, .int (nI lim), .int 0, .float 0], [.int (xsv (xlt T t a))])) (h' := (xS b, xm_up I 43 2 (nI (xsk T t a)), L, xP b)) rfl rfl ?_
    refine xw_go xb_47 1 (f1 := (28, [.ref 43, .int (nI lim), .int 0, .int (xsv (xlt T t a))], [])) (h1 := (xS b, xm_up I 43 2 (nI (xsk T t a)), L, xP b)) rfl trivial ?_
    refine xw_cong (l' := [.ref 43, .int (nI lim), .int (nI 0), .int (xsv (xlt T t a))]) (st' := []) (h' := (xS b, xm_up I 43 2 (nI (xsk T t a)), L, xP b)) (show ([.ref 43, .int (nI lim), .int 0, .int (xsv (xlt T t a))] : List Value) = [.ref 43, .int (nI lim), .int (nI 0), .int (xsv (xlt T t a))] from ?_) rfl rfl ?_
    · rfl
    refine xw_cong (l' := [.ref 43, .int (nI lim), .int (nI 0), .int (xsv (xlt T t (xrp T t p 0)))]) (st' := []) (h' := (xS b, xm_up I 43 2 (nI (xsk T t a)), L, xP b)) (show ([.ref 43, .int (nI lim), .int (nI 0), .int (xsv (xlt T t a))] : List Value) = [.ref 43, .int (nI lim), .int (nI 0), .int (xsv (xlt T t (xrp T t p 0)))] from ?_) rfl rfl ?_
    · rw [xlt_c hp]
      rfl
    refine xw_loopP n (fun k => (28, [.ref 43, .int (nI lim), .int (nI k), .int (xsv (xlt T t (xrp T t p k)))], [])) (fun k h => ∃ J, h = (xS b, J, L, xP b) ∧ (∀ a, a ≠ 43 → a ≠ 44 → J a = I a) ∧ J 43 2 = nI (xsk T t (xrp T t p k)) ∧ J 43 5 = nI (z + k) ∧ (∀ j, j ≠ 2 → j ≠ 5 → J 43 j = I 43 j) ∧ (∀ j, j < k → J 44 (z + j) = nI (xsc (xlt T t (xrp T t p j)))) ∧ ∀ j, j < z → J 44 j = I 44 j) (fun k h hk hV ih => ?_) (fun h hV => ?_) 0 _ (Nat.zero_le _) ⟨_, rfl, fun a h1 h2 => xm_up_o h1, by rw [xm_up_at, hp]; rfl, by rw [xm_up_ne (Or.inr (by decide))]; exact h5, fun j h1 h2 => xm_up_ne (Or.inr h1), fun j hj => absurd hj (Nat.not_lt_zero j), fun j hj => by rw [xm_up_o (by decide)]⟩
    · obtain ⟨J, rfl, j1, j2, j3, j4, j5, j6⟩ := hV
      have fk : xfr9 T t p k = true := nt k hk
      have fc := of_decide_eq_true fk
      have fl := xfr9_lt fk
      have rl : xrp T t p (k + 1) ≤ t := xrp_le hp2 nt (k + 1) (by omega)
      have hkl : k < lim := Nat.lt_of_lt_of_le hk nl
      refine xw_go xb_47 3 (f1 := (if (nI lim) ≤ (nI k) then 90 else 33, [.ref 43, .int (nI lim), .int (nI k), .int (xsv (xlt T t (xrp T t p k)))], [])) (h1 := (xS b, J, L, xP b)) rfl trivial ?_
      refine xw_if (fun c_30 => ?_) (fun c_30 => ?_)
      · skip
        first
          | (rw [xsv_ge] at c_34
             exact absurd fc c_34)
          | (exfalso
             simp (disch := omega) only [xl_64, nI_leI] at c_30
             omega)
      · skip
        refine xw_go xb_47 2 (f1 := (if (xsv (xlt T t (xrp T t p k))) < 0 then 90 else 37, [.ref 43, .int (nI lim), .int (nI k), .int (xsv (xlt T t (xrp T t p k)))], [])) (h1 := (xS b, J, L, xP b)) rfl trivial ?_
        refine xw_if (fun c_34 => ?_) (fun c_34 => ?_)
        · skip
          first
            | (rw [xsv_ge] at c_34
               exact absurd fc c_34)
            | (exfalso
               simp (disch := omega) only [xl_64, nI_leI] at c_30 c_34
               omega)
        · skip
          refine xw_go xb_47 2 (f1 := (41, [.ref 43, .int (nI lim), .int (nI k), .int (xsv (xlt T t (xrp T t p k)))], [.int (J 43 5)])) (h1 := (xS b, J, L, xP b)) rfl ⟨rfl, trivial⟩ ?_
          refine xw_cong (l' := [.ref 43, .int (nI lim), .int (nI k), .int (xsv (xlt T t (xrp T t p k)))]) (st' := [.int (nI (z + k))]) (h' := (xS b, J, L, xP b)) rfl (show ([.int (J 43 5)] : List Value) = [.int (nI (z + k))] from ?_) rfl ?_
          · rw [j3]
          refine xw_go xb_47 2 (f1 := (if 64 ≤ (nI (z + k)) then 90 else 46, [.ref 43, .int (nI lim), .int (nI k), .int (xsv (xlt T t (xrp T t p k)))], [])) (h1 := (xS b, J, L, xP b)) rfl trivial ?_
          refine xw_if (fun c_43 => ?_) (fun c_43 => ?_)
          · skip
            first
              | (rw [xsv_ge] at c_34
                 exact absurd fc c_34)
              | (exfalso
                 simp (disch := omega) only [xl_64, nI_leI] at c_30 c_34 c_43
                 omega)
          · skip
            refine xw_go xb_47 4 (f1 := (54, [.ref 43, .int (nI lim), .int (nI k), .int (xsv (xlt T t (xrp T t p k)))], [.int (J 43 5), .ref 44])) (h1 := (xS b, J, L, xP b)) rfl ⟨rfl, rfl, trivial⟩ ?_
            refine xw_cong (l' := [.ref 43, .int (nI lim), .int (nI k), .int (xsv (xlt T t (xrp T t p k)))]) (st' := [.int (nI (z + k)), .ref 44]) (h' := (xS b, J, L, xP b)) rfl (show ([.int (J 43 5), .ref 44] : List Value) = [.int (nI (z + k)), .ref 44] from ?_) rfl ?_
            · rw [j3]
            refine xw_go xb_47 1 (f1 := (55, [.ref 43, .int (nI lim), .int (nI k), .int (xsv (xlt T t (xrp T t p k)))], [.int (xsv (xlt T t (xrp T t p k))), .int (nI (z + k)), .ref 44])) (h1 := (xS b, J, L, xP b)) rfl trivial ?_
            refine xw_cong (l' := [.ref 43, .int (nI lim), .int (nI k), .int (xsv (xlt T t (xrp T t p k)))]) (st' := [.int (nI (xsc (xlt T t (xrp T t p k)))), .int (nI (z + k)), .ref 44]) (h' := (xS b, J, L, xP b)) rfl (show ([.int (xsv (xlt T t (xrp T t p k))), .int (nI (z + k)), .ref 44] : List Value) = [.int (nI (xsc (xlt T t (xrp T t p k)))), .int (nI (z + k)), .ref 44] from ?_) rfl ?_
            · unfold xsv
              rw [if_pos fc]
            refine xw_go xb_47 1 (f1 := (56, [.ref 43, .int (nI lim), .int (nI k), .int (xsv (xlt T t (xrp T t p k)))], [])) (h1 := (xS b, xm_up J 44 (nI (z + k)).toNatClampNeg (nI (xsc (xlt T t (xrp T t p k)))), L, xP b)) rfl ⟨(xn_ar (n := z + k) (N := 64) rfl (by omega) (by decide)), trivial⟩ ?_
            refine xw_at (f' := (56, [.ref 43, .int (nI lim), .int (nI k), .int (xsv (xlt T t (xrp T t p k)))], [])) (h' := (xS b, xm_up J 44 (z + k) (nI (xsc (xlt T t (xrp T t p k)))), L, xP b)) rfl (show (xS b, xm_up J 44 (nI (z + k)).toNatClampNeg (nI (xsc (xlt T t (xrp T t p k)))), L, xP b) = (xS b, xm_up J 44 (z + k) (nI (xsc (xlt T t (xrp T t p k)))), L, xP b) from ?_) ?_
            · rw [xn_cl (by omega)]
            refine xw_go xb_47 6 (f1 := (66, [.ref 43, .int (nI lim), .int (nI k), .int (xsv (xlt T t (xrp T t p k)))], [])) (h1 := (xS b, xm_up (xm_up J 44 (z + k) (nI (xsc (xlt T t (xrp T t p k))))) 43 5 (((xm_up J 44 (z + k) (nI (xsc (xlt T t (xrp T t p k))))) 43 5) + 1), L, xP b)) rfl ⟨rfl, rfl, trivial⟩ ?_
            refine xw_at (f' := (66, [.ref 43, .int (nI lim), .int (nI k), .int (xsv (xlt T t (xrp T t p k)))], [])) (h' := (xS b, xm_up (xm_up J 44 (z + k) (nI (xsc (xlt T t (xrp T t p k))))) 43 5 (nI (z + k + 1)), L, xP b)) rfl (show (xS b, xm_up (xm_up J 44 (z + k) (nI (xsc (xlt T t (xrp T t p k))))) 43 5 (((xm_up J 44 (z + k) (nI (xsc (xlt T t (xrp T t p k))))) 43 5) + 1), L, xP b) = (xS b, xm_up (xm_up J 44 (z + k) (nI (xsc (xlt T t (xrp T t p k))))) 43 5 (nI (z + k + 1)), L, xP b) from ?_) ?_
            · rw [xm_up_o (by decide), j3, nI_1]
            refine xw_go xb_47 7 (f1 := (79, [.ref 43, .int (nI lim), .int ((nI k) + 1), .int (xsv (xlt T t (xrp T t p k)))], [])) (h1 := (xS b, xm_up (xm_up (xm_up J 44 (z + k) (nI (xsc (xlt T t (xrp T t p k))))) 43 5 (nI (z + k + 1))) 43 2 (((xm_up (xm_up J 44 (z + k) (nI (xsc (xlt T t (xrp T t p k))))) 43 5 (nI (z + k + 1))) 43 2) + 1), L, xP b)) rfl ⟨rfl, rfl, trivial⟩ ?_
            refine xw_at (f' := (79, [.ref 43, .int (nI lim), .int ((nI k) + 1), .int (xsv (xlt T t (xrp T t p k)))], [])) (h' := (xS b, xm_up (xm_up (xm_up J 44 (z + k) (nI (xsc (xlt T t (xrp T t p k))))) 43 5 (nI (z + k + 1))) 43 2 (nI (xrp T t p (k + 1))), L, xP b)) rfl (show (xS b, xm_up (xm_up (xm_up J 44 (z + k) (nI (xsc (xlt T t (xrp T t p k))))) 43 5 (nI (z + k + 1))) 43 2 (((xm_up (xm_up J 44 (z + k) (nI (xsc (xlt T t (xrp T t p k))))) 43 5 (nI (z + k + 1))) 43 2) + 1), L, xP b) = (xS b, xm_up (xm_up (xm_up J 44 (z + k) (nI (xsc (xlt T t (xrp T t p k))))) 43 5 (nI (z + k + 1))) 43 2 (nI (xrp T t p (k + 1))), L, xP b) from ?_) ?_
            · rw [xm_up_ne (Or.inr (by decide)), xm_up_o (by decide), j2, nI_1]
              rfl
            have r2 : xRT T t (xm_up (xm_up (xm_up J 44 (z + k) (nI (xsc (xlt T t (xrp T t p k))))) 43 5 (nI (z + k + 1))) 43 2 (nI (xrp T t p (k + 1)))) := xRT_fr hR (by rw [xm_up_ne (Or.inr (by decide)), xm_up_ne (Or.inr (by decide)), xm_up_o (by decide), j4 1 (by decide) (by decide)]) (by rw [xm_up_o (by decide), xm_up_o (by decide), xm_up_o (by decide), j1 42 (by decide) (by decide)])
            refine xw_go xb_47 1 (f1 := (80, [.ref 43, .int (nI lim), .int ((nI k) + 1), .int (xsv (xlt T t (xrp T t p k)))], [.ref 43])) (h1 := (xS b, xm_up (xm_up (xm_up J 44 (z + k) (nI (xsc (xlt T t (xrp T t p k))))) 43 5 (nI (z + k + 1))) 43 2 (nI (xrp T t p (k + 1))), L, xP b)) rfl trivial ?_
            refine xw_call xb_47 rfl rfl rfl rfl rfl (Or.inr ⟨_, _, rfl, rfl⟩) (c_letter (I := (xm_up (xm_up (xm_up J 44 (z + k) (nI (xsc (xlt T t (xrp T t p k))))) 43 5 (nI (z + k + 1))) 43 2 (nI (xrp T t p (k + 1))))) (a := xrp T t p (k + 1)) r2 (xm_up_at _ _ _ _) rl) ?_
            rintro _ _ ⟨rfl, rfl⟩
            refine xw_at (f' := (83, [.ref 43, .int (nI lim), .int ((nI k) + 1), .int (xsv (xlt T t (xrp T t p k)))], [.int (xlC T t (xrp T t p (k + 1)))])) (h' := (xS b, xm_up (xm_up (xm_up (xm_up J 44 (z + k) (nI (xsc (xlt T t (xrp T t p k))))) 43 5 (nI (z + k + 1))) 43 2 (nI (xrp T t p (k + 1)))) 43 2 (nI (xsk T t (xrp T t p (k + 1)))), L, xP b)) rfl rfl ?_
            refine xw_call xb_47 rfl rfl rfl rfl rfl (Or.inl rfl) (c_soilOf (a := xrp T t p (k + 1)) hR.2.1 rfl) ?_
            rintro _ _ ⟨rfl, rfl⟩
            refine xw_at (f' := (86, [.ref 43, .int (nI lim), .int ((nI k) + 1), .int (xsv (xlt T t (xrp T t p k)))], [.int (xsv (xlt T t (xrp T t p (k + 1))))])) (h' := (xS b, xm_up (xm_up (xm_up (xm_up J 44 (z + k) (nI (xsc (xlt T t (xrp T t p k))))) 43 5 (nI (z + k + 1))) 43 2 (nI (xrp T t p (k + 1)))) 43 2 (nI (xsk T t (xrp T t p (k + 1)))), L, xP b)) rfl rfl ?_
            refine xw_go xb_47 2 (f1 := (28, [.ref 43, .int (nI lim), .int ((nI k) + 1), .int (xsv (xlt T t (xrp T t p (k + 1))))], [])) (h1 := (xS b, xm_up (xm_up (xm_up (xm_up J 44 (z + k) (nI (xsc (xlt T t (xrp T t p k))))) 43 5 (nI (z + k + 1))) 43 2 (nI (xrp T t p (k + 1)))) 43 2 (nI (xsk T t (xrp T t p (k + 1)))), L, xP b)) rfl trivial ?_
            refine xw_cong ?_ rfl rfl (ih _ ⟨_, rfl, fun a h1 h2 => ?_, ?_, ?_, fun j h1 h2 => ?_, fun j hj => ?_, fun j hj => ?_⟩)
            · rw [nI_1]
            · rw [xm_up_o h1, xm_up_o h1, xm_up_o h1, xm_up_o h2]
              exact j1 a h1 h2
            · rw [xm_up_at]
            · rw [xm_up_ne (Or.inr (by decide)), xm_up_ne (Or.inr (by decide)), xm_up_at, Nat.add_assoc]
            · rw [xm_up_ne (Or.inr h1), xm_up_ne (Or.inr h1), xm_up_ne (Or.inr h2), xm_up_o (by decide)]
              exact j4 j h1 h2
            · rw [xm_up_o (by decide), xm_up_o (by decide), xm_up_o (by decide)]
              by_cases e : j = k
              · subst e
                rw [xm_up_at]
              · rw [xm_up_ne (Or.inr (by omega))]
                exact j5 j (by omega)
            · rw [xm_up_o (by decide), xm_up_o (by decide), xm_up_o (by decide), xm_up_ne (Or.inr (by omega))]
              exact j6 j hj
    · obtain ⟨J, rfl, j1, j2, j3, j4, j5, j6⟩ := hV
      refine xw_go xb_47 3 (f1 := (if (nI lim) ≤ (nI n) then 90 else 33, [.ref 43, .int (nI lim), .int (nI n), .int (xsv (xlt T t (xrp T t p n)))], [])) (h1 := (xS b, J, L, xP b)) rfl trivial ?_
      refine xw_if (fun c_30 => ?_) (fun c_30 => ?_)
      · skip
        refine xw_go xb_47 2 (f1 := (94, [.ref 43, .int (nI lim), .int (nI n), .int (xsv (xlt T t (xrp T t p n)))], [.int (J 43 3)])) (h1 := (xS b, J, L, xP b)) rfl ⟨rfl, trivial⟩ ?_
        refine xw_cong (l' := [.ref 43, .int (nI lim), .int (nI n), .int (xsv (xlt T t (xrp T t p n)))]) (st' := [.int (nI r)]) (h' := (xS b, J, L, xP b)) rfl (show ([.int (J 43 3)] : List Value) = [.int (nI r)] from ?_) rfl ?_
        · rw [j4 3 (by decide) (by decide), h3]
        refine xw_go xb_47 2 (f1 := (if ¬ (nI r) = 1 then 114 else 98, [.ref 43, .int (nI lim), .int (nI n), .int (xsv (xlt T t (xrp T t p n)))], [])) (h1 := (xS b, J, L, xP b)) rfl trivial ?_
        refine xw_if (fun c_95 => ?_) (fun c_95 => ?_)
        · skip
          exfalso
          rw [hr1] at c_95
          exact c_95 rfl
        · skip
          refine xw_go xb_47 6 (f1 := (if (nI n) < 2 then 112 else 108, [.ref 43, .int (nI lim), .int (nI n), .int (xsv (xlt T t (xrp T t p n)))], [])) (h1 := (xS b, xm_up J 43 4 (nI n), L, xP b)) rfl ⟨rfl, trivial⟩ ?_
          refine xw_if (fun c_105 => ?_) (fun c_105 => ?_)
          · skip
            refine xw_go xb_47 1 (f1 := (113, [.ref 43, .int (nI lim), .int (nI n), .int (xsv (xlt T t (xrp T t p n)))], [.int 0])) (h1 := (xS b, xm_up J 43 4 (nI n), L, xP b)) rfl trivial ?_
            refine xw_ret xb_47 rfl rfl ?_ ?_
            · first | exact Or.inl rfl | exact Or.inr rfl
            simp (disch := omega) only [xl_2, nI_ltI] at c_105
            refine ⟨by rw [show decide (2 ≤ n) = false from decide_eq_false (by omega)]; rfl, _, rfl, fun a h1 h2 => ?_, ?_, ?_, ?_, fun j h1 h2 h3 => ?_, fun j hj => ?_, fun j hj => ?_⟩
            · rw [xm_up_o h1]
              exact j1 a h1 h2
            · rw [xm_up_ne (Or.inr (by decide))]
              exact j2
            · rw [xm_up_at]
            · rw [xm_up_ne (Or.inr (by decide))]
              exact j3
            · rw [xm_up_ne (Or.inr h2)]
              exact j4 j h1 h3
            · rw [xm_up_o (by decide)]
              exact j5 j hj
            · rw [xm_up_o (by decide)]
              exact j6 j hj
          · skip
            refine xw_go xb_47 2 (f1 := (113, [.ref 43, .int (nI lim), .int (nI n), .int (xsv (xlt T t (xrp T t p n)))], [.int 1])) (h1 := (xS b, xm_up J 43 4 (nI n), L, xP b)) rfl trivial ?_
            refine xw_ret xb_47 rfl rfl ?_ ?_
            · first | exact Or.inl rfl | exact Or.inr rfl
            simp (disch := omega) only [xl_2, nI_ltI] at c_105
            refine ⟨by rw [show decide (2 ≤ n) = true from decide_eq_true (by omega)]; rfl, _, rfl, fun a h1 h2 => ?_, ?_, ?_, ?_, fun j h1 h2 h3 => ?_, fun j hj => ?_, fun j hj => ?_⟩
            · rw [xm_up_o h1]
              exact j1 a h1 h2
            · rw [xm_up_ne (Or.inr (by decide))]
              exact j2
            · rw [xm_up_at]
            · rw [xm_up_ne (Or.inr (by decide))]
              exact j3
            · rw [xm_up_ne (Or.inr h2)]
              exact j4 j h1 h3
            · rw [xm_up_o (by decide)]
              exact j5 j hj
            · rw [xm_up_o (by decide)]
              exact j6 j hj
      · skip
        refine xw_go xb_47 2 (f1 := (if (xsv (xlt T t (xrp T t p n))) < 0 then 90 else 37, [.ref 43, .int (nI lim), .int (nI n), .int (xsv (xlt T t (xrp T t p n)))], [])) (h1 := (xS b, J, L, xP b)) rfl trivial ?_
        refine xw_if (fun c_34 => ?_) (fun c_34 => ?_)
        · skip
          refine xw_go xb_47 2 (f1 := (94, [.ref 43, .int (nI lim), .int (nI n), .int (xsv (xlt T t (xrp T t p n)))], [.int (J 43 3)])) (h1 := (xS b, J, L, xP b)) rfl ⟨rfl, trivial⟩ ?_
          refine xw_cong (l' := [.ref 43, .int (nI lim), .int (nI n), .int (xsv (xlt T t (xrp T t p n)))]) (st' := [.int (nI r)]) (h' := (xS b, J, L, xP b)) rfl (show ([.int (J 43 3)] : List Value) = [.int (nI r)] from ?_) rfl ?_
          · rw [j4 3 (by decide) (by decide), h3]
          refine xw_go xb_47 2 (f1 := (if ¬ (nI r) = 1 then 114 else 98, [.ref 43, .int (nI lim), .int (nI n), .int (xsv (xlt T t (xrp T t p n)))], [])) (h1 := (xS b, J, L, xP b)) rfl trivial ?_
          refine xw_if (fun c_95 => ?_) (fun c_95 => ?_)
          · skip
            exfalso
            rw [hr1] at c_95
            exact c_95 rfl
          · skip
            refine xw_go xb_47 6 (f1 := (if (nI n) < 2 then 112 else 108, [.ref 43, .int (nI lim), .int (nI n), .int (xsv (xlt T t (xrp T t p n)))], [])) (h1 := (xS b, xm_up J 43 4 (nI n), L, xP b)) rfl ⟨rfl, trivial⟩ ?_
            refine xw_if (fun c_105 => ?_) (fun c_105 => ?_)
            · skip
              refine xw_go xb_47 1 (f1 := (113, [.ref 43, .int (nI lim), .int (nI n), .int (xsv (xlt T t (xrp T t p n)))], [.int 0])) (h1 := (xS b, xm_up J 43 4 (nI n), L, xP b)) rfl trivial ?_
              refine xw_ret xb_47 rfl rfl ?_ ?_
              · first | exact Or.inl rfl | exact Or.inr rfl
              simp (disch := omega) only [xl_2, nI_ltI] at c_105
              refine ⟨by rw [show decide (2 ≤ n) = false from decide_eq_false (by omega)]; rfl, _, rfl, fun a h1 h2 => ?_, ?_, ?_, ?_, fun j h1 h2 h3 => ?_, fun j hj => ?_, fun j hj => ?_⟩
              · rw [xm_up_o h1]
                exact j1 a h1 h2
              · rw [xm_up_ne (Or.inr (by decide))]
                exact j2
              · rw [xm_up_at]
              · rw [xm_up_ne (Or.inr (by decide))]
                exact j3
              · rw [xm_up_ne (Or.inr h2)]
                exact j4 j h1 h3
              · rw [xm_up_o (by decide)]
                exact j5 j hj
              · rw [xm_up_o (by decide)]
                exact j6 j hj
            · skip
              refine xw_go xb_47 2 (f1 := (113, [.ref 43, .int (nI lim), .int (nI n), .int (xsv (xlt T t (xrp T t p n)))], [.int 1])) (h1 := (xS b, xm_up J 43 4 (nI n), L, xP b)) rfl trivial ?_
              refine xw_ret xb_47 rfl rfl ?_ ?_
              · first | exact Or.inl rfl | exact Or.inr rfl
              simp (disch := omega) only [xl_2, nI_ltI] at c_105
              refine ⟨by rw [show decide (2 ≤ n) = true from decide_eq_true (by omega)]; rfl, _, rfl, fun a h1 h2 => ?_, ?_, ?_, ?_, fun j h1 h2 h3 => ?_, fun j hj => ?_, fun j hj => ?_⟩
              · rw [xm_up_o h1]
                exact j1 a h1 h2
              · rw [xm_up_ne (Or.inr (by decide))]
                exact j2
              · rw [xm_up_at]
              · rw [xm_up_ne (Or.inr (by decide))]
                exact j3
              · rw [xm_up_ne (Or.inr h2)]
                exact j4 j h1 h3
              · rw [xm_up_o (by decide)]
                exact j5 j hj
              · rw [xm_up_o (by decide)]
                exact j6 j hj
        · skip
          refine xw_go xb_47 2 (f1 := (41, [.ref 43, .int (nI lim), .int (nI n), .int (xsv (xlt T t (xrp T t p n)))], [.int (J 43 5)])) (h1 := (xS b, J, L, xP b)) rfl ⟨rfl, trivial⟩ ?_
          refine xw_cong (l' := [.ref 43, .int (nI lim), .int (nI n), .int (xsv (xlt T t (xrp T t p n)))]) (st' := [.int (nI (z + n))]) (h' := (xS b, J, L, xP b)) rfl (show ([.int (J 43 5)] : List Value) = [.int (nI (z + n))] from ?_) rfl ?_
          · rw [j3]
          refine xw_go xb_47 2 (f1 := (if 64 ≤ (nI (z + n)) then 90 else 46, [.ref 43, .int (nI lim), .int (nI n), .int (xsv (xlt T t (xrp T t p n)))], [])) (h1 := (xS b, J, L, xP b)) rfl trivial ?_
          refine xw_if (fun c_43 => ?_) (fun c_43 => ?_)
          · skip
            refine xw_go xb_47 2 (f1 := (94, [.ref 43, .int (nI lim), .int (nI n), .int (xsv (xlt T t (xrp T t p n)))], [.int (J 43 3)])) (h1 := (xS b, J, L, xP b)) rfl ⟨rfl, trivial⟩ ?_
            refine xw_cong (l' := [.ref 43, .int (nI lim), .int (nI n), .int (xsv (xlt T t (xrp T t p n)))]) (st' := [.int (nI r)]) (h' := (xS b, J, L, xP b)) rfl (show ([.int (J 43 3)] : List Value) = [.int (nI r)] from ?_) rfl ?_
            · rw [j4 3 (by decide) (by decide), h3]
            refine xw_go xb_47 2 (f1 := (if ¬ (nI r) = 1 then 114 else 98, [.ref 43, .int (nI lim), .int (nI n), .int (xsv (xlt T t (xrp T t p n)))], [])) (h1 := (xS b, J, L, xP b)) rfl trivial ?_
            refine xw_if (fun c_95 => ?_) (fun c_95 => ?_)
            · skip
              exfalso
              rw [hr1] at c_95
              exact c_95 rfl
            · skip
              refine xw_go xb_47 6 (f1 := (if (nI n) < 2 then 112 else 108, [.ref 43, .int (nI lim), .int (nI n), .int (xsv (xlt T t (xrp T t p n)))], [])) (h1 := (xS b, xm_up J 43 4 (nI n), L, xP b)) rfl ⟨rfl, trivial⟩ ?_
              refine xw_if (fun c_105 => ?_) (fun c_105 => ?_)
              · skip
                refine xw_go xb_47 1 (f1 := (113, [.ref 43, .int (nI lim), .int (nI n), .int (xsv (xlt T t (xrp T t p n)))], [.int 0])) (h1 := (xS b, xm_up J 43 4 (nI n), L, xP b)) rfl trivial ?_
                refine xw_ret xb_47 rfl rfl ?_ ?_
                · first | exact Or.inl rfl | exact Or.inr rfl
                simp (disch := omega) only [xl_2, nI_ltI] at c_105
                refine ⟨by rw [show decide (2 ≤ n) = false from decide_eq_false (by omega)]; rfl, _, rfl, fun a h1 h2 => ?_, ?_, ?_, ?_, fun j h1 h2 h3 => ?_, fun j hj => ?_, fun j hj => ?_⟩
                · rw [xm_up_o h1]
                  exact j1 a h1 h2
                · rw [xm_up_ne (Or.inr (by decide))]
                  exact j2
                · rw [xm_up_at]
                · rw [xm_up_ne (Or.inr (by decide))]
                  exact j3
                · rw [xm_up_ne (Or.inr h2)]
                  exact j4 j h1 h3
                · rw [xm_up_o (by decide)]
                  exact j5 j hj
                · rw [xm_up_o (by decide)]
                  exact j6 j hj
              · skip
                refine xw_go xb_47 2 (f1 := (113, [.ref 43, .int (nI lim), .int (nI n), .int (xsv (xlt T t (xrp T t p n)))], [.int 1])) (h1 := (xS b, xm_up J 43 4 (nI n), L, xP b)) rfl trivial ?_
                refine xw_ret xb_47 rfl rfl ?_ ?_
                · first | exact Or.inl rfl | exact Or.inr rfl
                simp (disch := omega) only [xl_2, nI_ltI] at c_105
                refine ⟨by rw [show decide (2 ≤ n) = true from decide_eq_true (by omega)]; rfl, _, rfl, fun a h1 h2 => ?_, ?_, ?_, ?_, fun j h1 h2 h3 => ?_, fun j hj => ?_, fun j hj => ?_⟩
                · rw [xm_up_o h1]
                  exact j1 a h1 h2
                · rw [xm_up_ne (Or.inr (by decide))]
                  exact j2
                · rw [xm_up_at]
                · rw [xm_up_ne (Or.inr (by decide))]
                  exact j3
                · rw [xm_up_ne (Or.inr h2)]
                  exact j4 j h1 h3
                · rw [xm_up_o (by decide)]
                  exact j5 j hj
                · rw [xm_up_o (by decide)]
                  exact j6 j hj
          · skip
            exfalso
            simp (disch := omega) only [xl_64, nI_leI] at c_30 c_43
            have q := nf (by omega)
            rw [xsv_ge, Classical.not_not] at c_34
            exact absurd (decide_eq_true c_34) (by unfold xfr9 at q; rw [q]; decide)

theorem c_row2 {d : Nat} {b : Bool} {I : Nat → Nat → Int32} {L : Nat → Nat → Int64} {T : Nat → Nat} {t : Nat} (hR : xRT T t I) {r c z p a lim : Nat} (h3 : I 43 3 = nI r) (h5 : I 43 5 = nI z) (h2 : I 43 2 = nI a) (ha : a ≤ t) (hp : xsk T t a = xsk T t p) (hp2 : p ≤ t) (hr1 : 2 ≤ r ∧ r ≤ 8) (h4 : I 43 4 = nI c) (bc : c ≤ 8) (hlim : lim = c) (hz : z + lim ≤ 64) {n : Nat} (hn : n = xld (xfr9 T t p) lim)  : xm_Z (d + 2) 47 [.ref 43] (xS b, I, L, xP b) (fun rz hz => rz = some (.int (nI (xB (decide (n = c))))) ∧ ∃ I', hz = (xS b, I', L, xP b) ∧ (∀ a, a ≠ 43 → a ≠ 44 → I' a = I a) ∧ I' 43 2 = nI (xsk T t (xrp T t p n)) ∧ I' 43 4 = nI c ∧ I' 43 5 = nI (z + n) ∧ (∀ k, k ≠ 2 → k ≠ 4 → k ≠ 5 → I' 43 k = I 43 k) ∧ (∀ j, j < n → I' 44 (z + j) = nI (xsc (xlt T t (xrp T t p j)))) ∧ ∀ j, j < z → I' 44 j = I 44 j) := by
  have nl : n ≤ lim := by rw [hn]; exact xld_le _ _
  have nt : ∀ j, j < n → xfr9 T t p j = true := fun j hj => xld_t lim j (by rw [← hn]; exact hj)
  have nf : n < lim → xfr9 T t p n = false := fun q => by rw [hn]; exact xld_f lim (by rw [← hn]; exact q)
  refine xw_S xb_47 (l := [.ref 43, .float 0, .float 0, .float 0]) (Nat.le_of_ble_eq_true rfl) rfl ?_
  refine xw_go xb_47 4 (f1 := (if ¬ (I 43 3) = 1 then 13 else 8, [.ref 43, .float 0, .float 0, .float 0], [])) (h1 := (xS b, I, L, xP b)) rfl ⟨rfl, trivial⟩ ?_
  refine xw_if (fun c_5 => ?_) (fun c_5 => ?_)
  · skip
    refine xw_go xb_47 2 (f1 := (17, [.ref 43, .float 0, .float 0, .float 0], [.int (I 43 4)])) (h1 := (xS b, I, L, xP b)) rfl ⟨rfl, trivial⟩ ?_
    refine xw_cong (l' := [.ref 43, .float 0, .float 0, .float 0]) (st' := [.int (nI lim)]) (h' := (xS b, I, L, xP b)) rfl (show ([.int (I 43 4)] : List Value) = [.int (nI lim)] from ?_) rfl ?_
    · rw [h4, hlim]
    refine xw_go xb_47 4 (f1 := (21, [.ref 43, .int (nI lim), .int 0, .float 0], [.ref 43])) (h1 := (xS b, I, L, xP b)) rfl trivial ?_
    refine xw_call xb_47 rfl rfl rfl rfl rfl (Or.inr ⟨_, _, rfl, rfl⟩) (c_letter (I := I) (a := a) hR h2 ha) ?_
    rintro _ _ ⟨rfl, rfl⟩
    refine xw_at (f' := (24, [.ref 43, .int (nI lim), .int 0, .float 0], [.int (xlC T t a)])) (h' := (xS b, xm_up I 43 2 (nI (xsk T t a)), L, xP b)) rfl rfl ?_
    refine xw_call xb_47 rfl rfl rfl rfl rfl (Or.inl rfl) (c_soilOf (a := a) hR.2.1 rfl) ?_
    rintro _ _ ⟨rfl, rfl⟩
    refine xw_at (f' := (27, [.ref 43, .int (nI lim), .int 0, .float 0], [.int (xsv (xlt T t a))])) (h' := (xS b, xm_up I 43 2 (nI (xsk T t a)), L, xP b)) rfl rfl ?_
    refine xw_go xb_47 1 (f1 := (28, [.ref 43, .int (nI lim), .int 0, .int (xsv (xlt T t a))], [])) (h1 := (xS b, xm_up I 43 2 (nI (xsk T t a)), L, xP b)) rfl trivial ?_
    refine xw_cong (l' := [.ref 43, .int (nI lim), .int (nI 0), .int (xsv (xlt T t a))]) (st' := []) (h' := (xS b, xm_up I 43 2 (nI (xsk T t a)), L, xP b)) (show ([.ref 43, .int (nI lim), .int 0, .int (xsv (xlt T t a))] : List Value) = [.ref 43, .int (nI lim), .int (nI 0), .int (xsv (xlt T t a))] from ?_) rfl rfl ?_
    · rfl
    refine xw_cong (l' := [.ref 43, .int (nI lim), .int (nI 0), .int (xsv (xlt T t (xrp T t p 0)))]) (st' := []) (h' := (xS b, xm_up I 43 2 (nI (xsk T t a)), L, xP b)) (show ([.ref 43, .int (nI lim), .int (nI 0), .int (xsv (xlt T t a))] : List Value) = [.ref 43, .int (nI lim), .int (nI 0), .int (xsv (xlt T t (xrp T t p 0)))] from ?_) rfl rfl ?_
    · rw [xlt_c hp]
      rfl
    refine xw_loopP n (fun k => (28, [.ref 43, .int (nI lim), .int (nI k), .int (xsv (xlt T t (xrp T t p k)))], [])) (fun k h => ∃ J, h = (xS b, J, L, xP b) ∧ (∀ a, a ≠ 43 → a ≠ 44 → J a = I a) ∧ J 43 2 = nI (xsk T t (xrp T t p k)) ∧ J 43 5 = nI (z + k) ∧ (∀ j, j ≠ 2 → j ≠ 5 → J 43 j = I 43 j) ∧ (∀ j, j < k → J 44 (z + j) = nI (xsc (xlt T t (xrp T t p j)))) ∧ ∀ j, j < z → J 44 j = I 44 j) (fun k h hk hV ih => ?_) (fun h hV => ?_) 0 _ (Nat.zero_le _) ⟨_, rfl, fun a h1 h2 => xm_up_o h1, by rw [xm_up_at, hp]; rfl, by rw [xm_up_ne (Or.inr (by decide))]; exact h5, fun j h1 h2 => xm_up_ne (Or.inr h1), fun j hj => absurd hj (Nat.not_lt_zero j), fun j hj => by rw [xm_up_o (by decide)]⟩
    · obtain ⟨J, rfl, j1, j2, j3, j4, j5, j6⟩ := hV
      have fk : xfr9 T t p k = true := nt k hk
      have fc := of_decide_eq_true fk
      have fl := xfr9_lt fk
      have rl : xrp T t p (k + 1) ≤ t := xrp_le hp2 nt (k + 1) (by omega)
      have hkl : k < lim := Nat.lt_of_lt_of_le hk nl
      refine xw_go xb_47 3 (f1 := (if (nI lim) ≤ (nI k) then 90 else 33, [.ref 43, .int (nI lim), .int (nI k), .int (xsv (xlt T t (xrp T t p k)))], [])) (h1 := (xS b, J, L, xP b)) rfl trivial ?_
      refine xw_if (fun c_30 => ?_) (fun c_30 => ?_)
      · skip
        first
          | (rw [xsv_ge] at c_34
             exact absurd fc c_34)
          | (exfalso
             simp (disch := omega) only [xl_64, nI_leI] at c_30
             omega)
      · skip
        refine xw_go xb_47 2 (f1 := (if (xsv (xlt T t (xrp T t p k))) < 0 then 90 else 37, [.ref 43, .int (nI lim), .int (nI k), .int (xsv (xlt T t (xrp T t p k)))], [])) (h1 := (xS b, J, L, xP b)) rfl trivial ?_
        refine xw_if (fun c_34 => ?_) (fun c_34 => ?_)
        · skip
          first
            | (rw [xsv_ge] at c_34
               exact absurd fc c_34)
            | (exfalso
               simp (disch := omega) only [xl_64, nI_leI] at c_30 c_34
               omega)
        · skip
          refine xw_go xb_47 2 (f1 := (41, [.ref 43, .int (nI lim), .int (nI k), .int (xsv (xlt T t (xrp T t p k)))], [.int (J 43 5)])) (h1 := (xS b, J, L, xP b)) rfl ⟨rfl, trivial⟩ ?_
          refine xw_cong (l' := [.ref 43, .int (nI lim), .int (nI k), .int (xsv (xlt T t (xrp T t p k)))]) (st' := [.int (nI (z + k))]) (h' := (xS b, J, L, xP b)) rfl (show ([.int (J 43 5)] : List Value) = [.int (nI (z + k))] from ?_) rfl ?_
          · rw [j3]
          refine xw_go xb_47 2 (f1 := (if 64 ≤ (nI (z + k)) then 90 else 46, [.ref 43, .int (nI lim), .int (nI k), .int (xsv (xlt T t (xrp T t p k)))], [])) (h1 := (xS b, J, L, xP b)) rfl trivial ?_
          refine xw_if (fun c_43 => ?_) (fun c_43 => ?_)
          · skip
            first
              | (rw [xsv_ge] at c_34
                 exact absurd fc c_34)
              | (exfalso
                 simp (disch := omega) only [xl_64, nI_leI] at c_30 c_34 c_43
                 omega)
          · skip
            refine xw_go xb_47 4 (f1 := (54, [.ref 43, .int (nI lim), .int (nI k), .int (xsv (xlt T t (xrp T t p k)))], [.int (J 43 5), .ref 44])) (h1 := (xS b, J, L, xP b)) rfl ⟨rfl, rfl, trivial⟩ ?_
            refine xw_cong (l' := [.ref 43, .int (nI lim), .int (nI k), .int (xsv (xlt T t (xrp T t p k)))]) (st' := [.int (nI (z + k)), .ref 44]) (h' := (xS b, J, L, xP b)) rfl (show ([.int (J 43 5), .ref 44] : List Value) = [.int (nI (z + k)), .ref 44] from ?_) rfl ?_
            · rw [j3]
            refine xw_go xb_47 1 (f1 := (55, [.ref 43, .int (nI lim), .int (nI k), .int (xsv (xlt T t (xrp T t p k)))], [.int (xsv (xlt T t (xrp T t p k))), .int (nI (z + k)), .ref 44])) (h1 := (xS b, J, L, xP b)) rfl trivial ?_
            refine xw_cong (l' := [.ref 43, .int (nI lim), .int (nI k), .int (xsv (xlt T t (xrp T t p k)))]) (st' := [.int (nI (xsc (xlt T t (xrp T t p k)))), .int (nI (z + k)), .ref 44]) (h' := (xS b, J, L, xP b)) rfl (show ([.int (xsv (xlt T t (xrp T t p k))), .int (nI (z + k)), .ref 44] : List Value) = [.int (nI (xsc (xlt T t (xrp T t p k)))), .int (nI (z + k)), .ref 44] from ?_) rfl ?_
            · unfold xsv
              rw [if_pos fc]
            refine xw_go xb_47 1 (f1 := (56, [.ref 43, .int (nI lim), .int (nI k), .int (xsv (xlt T t (xrp T t p k)))], [])) (h1 := (xS b, xm_up J 44 (nI (z + k)).toNatClampNeg (nI (xsc (xlt T t (xrp T t p k)))), L, xP b)) rfl ⟨(xn_ar (n := z + k) (N := 64) rfl (by omega) (by decide)), trivial⟩ ?_
            refine xw_at (f' := (56, [.ref 43, .int (nI lim), .int (nI k), .int (xsv (xlt T t (xrp T t p k)))], [])) (h' := (xS b, xm_up J 44 (z + k) (nI (xsc (xlt T t (xrp T t p k)))), L, xP b)) rfl (show (xS b, xm_up J 44 (nI (z + k)).toNatClampNeg (nI (xsc (xlt T t (xrp T t p k)))), L, xP b) = (xS b, xm_up J 44 (z + k) (nI (xsc (xlt T t (xrp T t p k)))), L, xP b) from ?_) ?_
            · rw [xn_cl (by omega)]
            refine xw_go xb_47 6 (f1 := (66, [.ref 43, .int (nI lim), .int (nI k), .int (xsv (xlt T t (xrp T t p k)))], [])) (h1 := (xS b, xm_up (xm_up J 44 (z + k) (nI (xsc (xlt T t (xrp T t p k))))) 43 5 (((xm_up J 44 (z + k) (nI (xsc (xlt T t (xrp T t p k))))) 43 5) + 1), L, xP b)) rfl ⟨rfl, rfl, trivial⟩ ?_
            refine xw_at (f' := (66, [.ref 43, .int (nI lim), .int (nI k), .int (xsv (xlt T t (xrp T t p k)))], [])) (h' := (xS b, xm_up (xm_up J 44 (z + k) (nI (xsc (xlt T t (xrp T t p k))))) 43 5 (nI (z + k + 1)), L, xP b)) rfl (show (xS b, xm_up (xm_up J 44 (z + k) (nI (xsc (xlt T t (xrp T t p k))))) 43 5 (((xm_up J 44 (z + k) (nI (xsc (xlt T t (xrp T t p k))))) 43 5) + 1), L, xP b) = (xS b, xm_up (xm_up J 44 (z + k) (nI (xsc (xlt T t (xrp T t p k))))) 43 5 (nI (z + k + 1)), L, xP b) from ?_) ?_
            · rw [xm_up_o (by decide), j3, nI_1]
            refine xw_go xb_47 7 (f1 := (79, [.ref 43, .int (nI lim), .int ((nI k) + 1), .int (xsv (xlt T t (xrp T t p k)))], [])) (h1 := (xS b, xm_up (xm_up (xm_up J 44 (z + k) (nI (xsc (xlt T t (xrp T t p k))))) 43 5 (nI (z + k + 1))) 43 2 (((xm_up (xm_up J 44 (z + k) (nI (xsc (xlt T t (xrp T t p k))))) 43 5 (nI (z + k + 1))) 43 2) + 1), L, xP b)) rfl ⟨rfl, rfl, trivial⟩ ?_
            refine xw_at (f' := (79, [.ref 43, .int (nI lim), .int ((nI k) + 1), .int (xsv (xlt T t (xrp T t p k)))], [])) (h' := (xS b, xm_up (xm_up (xm_up J 44 (z + k) (nI (xsc (xlt T t (xrp T t p k))))) 43 5 (nI (z + k + 1))) 43 2 (nI (xrp T t p (k + 1))), L, xP b)) rfl (show (xS b, xm_up (xm_up (xm_up J 44 (z + k) (nI (xsc (xlt T t (xrp T t p k))))) 43 5 (nI (z + k + 1))) 43 2 (((xm_up (xm_up J 44 (z + k) (nI (xsc (xlt T t (xrp T t p k))))) 43 5 (nI (z + k + 1))) 43 2) + 1), L, xP b) = (xS b, xm_up (xm_up (xm_up J 44 (z + k) (nI (xsc (xlt T t (xrp T t p k))))) 43 5 (nI (z + k + 1))) 43 2 (nI (xrp T t p (k + 1))), L, xP b) from ?_) ?_
            · rw [xm_up_ne (Or.inr (by decide)), xm_up_o (by decide), j2, nI_1]
              rfl
            have r2 : xRT T t (xm_up (xm_up (xm_up J 44 (z + k) (nI (xsc (xlt T t (xrp T t p k))))) 43 5 (nI (z + k + 1))) 43 2 (nI (xrp T t p (k + 1)))) := xRT_fr hR (by rw [xm_up_ne (Or.inr (by decide)), xm_up_ne (Or.inr (by decide)), xm_up_o (by decide), j4 1 (by decide) (by decide)]) (by rw [xm_up_o (by decide), xm_up_o (by decide), xm_up_o (by decide), j1 42 (by decide) (by decide)])
            refine xw_go xb_47 1 (f1 := (80, [.ref 43, .int (nI lim), .int ((nI k) + 1), .int (xsv (xlt T t (xrp T t p k)))], [.ref 43])) (h1 := (xS b, xm_up (xm_up (xm_up J 44 (z + k) (nI (xsc (xlt T t (xrp T t p k))))) 43 5 (nI (z + k + 1))) 43 2 (nI (xrp T t p (k + 1))), L, xP b)) rfl trivial ?_
            refine xw_call xb_47 rfl rfl rfl rfl rfl (Or.inr ⟨_, _, rfl, rfl⟩) (c_letter (I := (xm_up (xm_up (xm_up J 44 (z + k) (nI (xsc (xlt T t (xrp T t p k))))) 43 5 (nI (z + k + 1))) 43 2 (nI (xrp T t p (k + 1))))) (a := xrp T t p (k + 1)) r2 (xm_up_at _ _ _ _) rl) ?_
            rintro _ _ ⟨rfl, rfl⟩
            refine xw_at (f' := (83, [.ref 43, .int (nI lim), .int ((nI k) + 1), .int (xsv (xlt T t (xrp T t p k)))], [.int (xlC T t (xrp T t p (k + 1)))])) (h' := (xS b, xm_up (xm_up (xm_up (xm_up J 44 (z + k) (nI (xsc (xlt T t (xrp T t p k))))) 43 5 (nI (z + k + 1))) 43 2 (nI (xrp T t p (k + 1)))) 43 2 (nI (xsk T t (xrp T t p (k + 1)))), L, xP b)) rfl rfl ?_
            refine xw_call xb_47 rfl rfl rfl rfl rfl (Or.inl rfl) (c_soilOf (a := xrp T t p (k + 1)) hR.2.1 rfl) ?_
            rintro _ _ ⟨rfl, rfl⟩
            refine xw_at (f' := (86, [.ref 43, .int (nI lim), .int ((nI k) + 1), .int (xsv (xlt T t (xrp T t p k)))], [.int (xsv (xlt T t (xrp T t p (k + 1))))])) (h' := (xS b, xm_up (xm_up (xm_up (xm_up J 44 (z + k) (nI (xsc (xlt T t (xrp T t p k))))) 43 5 (nI (z + k + 1))) 43 2 (nI (xrp T t p (k + 1)))) 43 2 (nI (xsk T t (xrp T t p (k + 1)))), L, xP b)) rfl rfl ?_
            refine xw_go xb_47 2 (f1 := (28, [.ref 43, .int (nI lim), .int ((nI k) + 1), .int (xsv (xlt T t (xrp T t p (k + 1))))], [])) (h1 := (xS b, xm_up (xm_up (xm_up (xm_up J 44 (z + k) (nI (xsc (xlt T t (xrp T t p k))))) 43 5 (nI (z + k + 1))) 43 2 (nI (xrp T t p (k + 1)))) 43 2 (nI (xsk T t (xrp T t p (k + 1)))), L, xP b)) rfl trivial ?_
            refine xw_cong ?_ rfl rfl (ih _ ⟨_, rfl, fun a h1 h2 => ?_, ?_, ?_, fun j h1 h2 => ?_, fun j hj => ?_, fun j hj => ?_⟩)
            · rw [nI_1]
            · rw [xm_up_o h1, xm_up_o h1, xm_up_o h1, xm_up_o h2]
              exact j1 a h1 h2
            · rw [xm_up_at]
            · rw [xm_up_ne (Or.inr (by decide)), xm_up_ne (Or.inr (by decide)), xm_up_at, Nat.add_assoc]
            · rw [xm_up_ne (Or.inr h1), xm_up_ne (Or.inr h1), xm_up_ne (Or.inr h2), xm_up_o (by decide)]
              exact j4 j h1 h2
            · rw [xm_up_o (by decide), xm_up_o (by decide), xm_up_o (by decide)]
              by_cases e : j = k
              · subst e
                rw [xm_up_at]
              · rw [xm_up_ne (Or.inr (by omega))]
                exact j5 j (by omega)
            · rw [xm_up_o (by decide), xm_up_o (by decide), xm_up_o (by decide), xm_up_ne (Or.inr (by omega))]
              exact j6 j hj
    · obtain ⟨J, rfl, j1, j2, j3, j4, j5, j6⟩ := hV
      refine xw_go xb_47 3 (f1 := (if (nI lim) ≤ (nI n) then 90 else 33, [.ref 43, .int (nI lim), .int (nI n), .int (xsv (xlt T t (xrp T t p n)))], [])) (h1 := (xS b, J, L, xP b)) rfl trivial ?_
      refine xw_if (fun c_30 => ?_) (fun c_30 => ?_)
      · skip
        refine xw_go xb_47 2 (f1 := (94, [.ref 43, .int (nI lim), .int (nI n), .int (xsv (xlt T t (xrp T t p n)))], [.int (J 43 3)])) (h1 := (xS b, J, L, xP b)) rfl ⟨rfl, trivial⟩ ?_
        refine xw_cong (l' := [.ref 43, .int (nI lim), .int (nI n), .int (xsv (xlt T t (xrp T t p n)))]) (st' := [.int (nI r)]) (h' := (xS b, J, L, xP b)) rfl (show ([.int (J 43 3)] : List Value) = [.int (nI r)] from ?_) rfl ?_
        · rw [j4 3 (by decide) (by decide), h3]
        refine xw_go xb_47 2 (f1 := (if ¬ (nI r) = 1 then 114 else 98, [.ref 43, .int (nI lim), .int (nI n), .int (xsv (xlt T t (xrp T t p n)))], [])) (h1 := (xS b, J, L, xP b)) rfl trivial ?_
        refine xw_if (fun c_95 => ?_) (fun c_95 => ?_)
        · skip
          refine xw_go xb_47 3 (f1 := (119, [.ref 43, .int (nI lim), .int (nI n), .int (xsv (xlt T t (xrp T t p n)))], [.int (J 43 4), .int (nI n)])) (h1 := (xS b, J, L, xP b)) rfl ⟨rfl, trivial⟩ ?_
          refine xw_cong (l' := [.ref 43, .int (nI lim), .int (nI n), .int (xsv (xlt T t (xrp T t p n)))]) (st' := [.int (nI c), .int (nI n)]) (h' := (xS b, J, L, xP b)) rfl (show ([.int (J 43 4), .int (nI n)] : List Value) = [.int (nI c), .int (nI n)] from ?_) rfl ?_
          · rw [j4 4 (by decide) (by decide), h4]
          refine xw_go xb_47 1 (f1 := (if ¬ (nI n) = (nI c) then 126 else 122, [.ref 43, .int (nI lim), .int (nI n), .int (xsv (xlt T t (xrp T t p n)))], [])) (h1 := (xS b, J, L, xP b)) rfl trivial ?_
          refine xw_if (fun c_119 => ?_) (fun c_119 => ?_)
          · skip
            refine xw_go xb_47 1 (f1 := (127, [.ref 43, .int (nI lim), .int (nI n), .int (xsv (xlt T t (xrp T t p n)))], [.int 0])) (h1 := (xS b, J, L, xP b)) rfl trivial ?_
            refine xw_ret xb_47 rfl rfl ?_ ?_
            · first | exact Or.inl rfl | exact Or.inr rfl
            rw [nI_eq (by omega) (by omega)] at c_119
            refine ⟨by rw [show decide (n = c) = false from decide_eq_false (by omega)]; rfl, _, rfl, j1, j2, ?_, j3, fun j h1 h2 h3 => j4 j h1 h3, j5, j6⟩
            rw [j4 4 (by decide) (by decide), h4]
          · skip
            refine xw_go xb_47 2 (f1 := (127, [.ref 43, .int (nI lim), .int (nI n), .int (xsv (xlt T t (xrp T t p n)))], [.int 1])) (h1 := (xS b, J, L, xP b)) rfl trivial ?_
            refine xw_ret xb_47 rfl rfl ?_ ?_
            · first | exact Or.inl rfl | exact Or.inr rfl
            rw [nI_eq (by omega) (by omega)] at c_119
            refine ⟨by rw [show decide (n = c) = true from decide_eq_true (by omega)]; rfl, _, rfl, j1, j2, ?_, j3, fun j h1 h2 h3 => j4 j h1 h3, j5, j6⟩
            rw [j4 4 (by decide) (by decide), h4]
        · skip
          exfalso
          rw [Classical.not_not, xl_1, nI_eq (by omega) (by omega)] at c_95
          omega
      · skip
        refine xw_go xb_47 2 (f1 := (if (xsv (xlt T t (xrp T t p n))) < 0 then 90 else 37, [.ref 43, .int (nI lim), .int (nI n), .int (xsv (xlt T t (xrp T t p n)))], [])) (h1 := (xS b, J, L, xP b)) rfl trivial ?_
        refine xw_if (fun c_34 => ?_) (fun c_34 => ?_)
        · skip
          refine xw_go xb_47 2 (f1 := (94, [.ref 43, .int (nI lim), .int (nI n), .int (xsv (xlt T t (xrp T t p n)))], [.int (J 43 3)])) (h1 := (xS b, J, L, xP b)) rfl ⟨rfl, trivial⟩ ?_
          refine xw_cong (l' := [.ref 43, .int (nI lim), .int (nI n), .int (xsv (xlt T t (xrp T t p n)))]) (st' := [.int (nI r)]) (h' := (xS b, J, L, xP b)) rfl (show ([.int (J 43 3)] : List Value) = [.int (nI r)] from ?_) rfl ?_
          · rw [j4 3 (by decide) (by decide), h3]
          refine xw_go xb_47 2 (f1 := (if ¬ (nI r) = 1 then 114 else 98, [.ref 43, .int (nI lim), .int (nI n), .int (xsv (xlt T t (xrp T t p n)))], [])) (h1 := (xS b, J, L, xP b)) rfl trivial ?_
          refine xw_if (fun c_95 => ?_) (fun c_95 => ?_)
          · skip
            refine xw_go xb_47 3 (f1 := (119, [.ref 43, .int (nI lim), .int (nI n), .int (xsv (xlt T t (xrp T t p n)))], [.int (J 43 4), .int (nI n)])) (h1 := (xS b, J, L, xP b)) rfl ⟨rfl, trivial⟩ ?_
            refine xw_cong (l' := [.ref 43, .int (nI lim), .int (nI n), .int (xsv (xlt T t (xrp T t p n)))]) (st' := [.int (nI c), .int (nI n)]) (h' := (xS b, J, L, xP b)) rfl (show ([.int (J 43 4), .int (nI n)] : List Value) = [.int (nI c), .int (nI n)] from ?_) rfl ?_
            · rw [j4 4 (by decide) (by decide), h4]
            refine xw_go xb_47 1 (f1 := (if ¬ (nI n) = (nI c) then 126 else 122, [.ref 43, .int (nI lim), .int (nI n), .int (xsv (xlt T t (xrp T t p n)))], [])) (h1 := (xS b, J, L, xP b)) rfl trivial ?_
            refine xw_if (fun c_119 => ?_) (fun c_119 => ?_)
            · skip
              refine xw_go xb_47 1 (f1 := (127, [.ref 43, .int (nI lim), .int (nI n), .int (xsv (xlt T t (xrp T t p n)))], [.int 0])) (h1 := (xS b, J, L, xP b)) rfl trivial ?_
              refine xw_ret xb_47 rfl rfl ?_ ?_
              · first | exact Or.inl rfl | exact Or.inr rfl
              rw [nI_eq (by omega) (by omega)] at c_119
              refine ⟨by rw [show decide (n = c) = false from decide_eq_false (by omega)]; rfl, _, rfl, j1, j2, ?_, j3, fun j h1 h2 h3 => j4 j h1 h3, j5, j6⟩
              rw [j4 4 (by decide) (by decide), h4]
            · skip
              refine xw_go xb_47 2 (f1 := (127, [.ref 43, .int (nI lim), .int (nI n), .int (xsv (xlt T t (xrp T t p n)))], [.int 1])) (h1 := (xS b, J, L, xP b)) rfl trivial ?_
              refine xw_ret xb_47 rfl rfl ?_ ?_
              · first | exact Or.inl rfl | exact Or.inr rfl
              rw [nI_eq (by omega) (by omega)] at c_119
              refine ⟨by rw [show decide (n = c) = true from decide_eq_true (by omega)]; rfl, _, rfl, j1, j2, ?_, j3, fun j h1 h2 h3 => j4 j h1 h3, j5, j6⟩
              rw [j4 4 (by decide) (by decide), h4]
          · skip
            exfalso
            rw [Classical.not_not, xl_1, nI_eq (by omega) (by omega)] at c_95
            omega
        · skip
          refine xw_go xb_47 2 (f1 := (41, [.ref 43, .int (nI lim), .int (nI n), .int (xsv (xlt T t (xrp T t p n)))], [.int (J 43 5)])) (h1 := (xS b, J, L, xP b)) rfl ⟨rfl, trivial⟩ ?_
          refine xw_cong (l' := [.ref 43, .int (nI lim), .int (nI n), .int (xsv (xlt T t (xrp T t p n)))]) (st' := [.int (nI (z + n))]) (h' := (xS b, J, L, xP b)) rfl (show ([.int (J 43 5)] : List Value) = [.int (nI (z + n))] from ?_) rfl ?_
          · rw [j3]
          refine xw_go xb_47 2 (f1 := (if 64 ≤ (nI (z + n)) then 90 else 46, [.ref 43, .int (nI lim), .int (nI n), .int (xsv (xlt T t (xrp T t p n)))], [])) (h1 := (xS b, J, L, xP b)) rfl trivial ?_
          refine xw_if (fun c_43 => ?_) (fun c_43 => ?_)
          · skip
            refine xw_go xb_47 2 (f1 := (94, [.ref 43, .int (nI lim), .int (nI n), .int (xsv (xlt T t (xrp T t p n)))], [.int (J 43 3)])) (h1 := (xS b, J, L, xP b)) rfl ⟨rfl, trivial⟩ ?_
            refine xw_cong (l' := [.ref 43, .int (nI lim), .int (nI n), .int (xsv (xlt T t (xrp T t p n)))]) (st' := [.int (nI r)]) (h' := (xS b, J, L, xP b)) rfl (show ([.int (J 43 3)] : List Value) = [.int (nI r)] from ?_) rfl ?_
            · rw [j4 3 (by decide) (by decide), h3]
            refine xw_go xb_47 2 (f1 := (if ¬ (nI r) = 1 then 114 else 98, [.ref 43, .int (nI lim), .int (nI n), .int (xsv (xlt T t (xrp T t p n)))], [])) (h1 := (xS b, J, L, xP b)) rfl trivial ?_
            refine xw_if (fun c_95 => ?_) (fun c_95 => ?_)
            · skip
              refine xw_go xb_47 3 (f1 := (119, [.ref 43, .int (nI lim), .int (nI n), .int (xsv (xlt T t (xrp T t p n)))], [.int (J 43 4), .int (nI n)])) (h1 := (xS b, J, L, xP b)) rfl ⟨rfl, trivial⟩ ?_
              refine xw_cong (l' := [.ref 43, .int (nI lim), .int (nI n), .int (xsv (xlt T t (xrp T t p n)))]) (st' := [.int (nI c), .int (nI n)]) (h' := (xS b, J, L, xP b)) rfl (show ([.int (J 43 4), .int (nI n)] : List Value) = [.int (nI c), .int (nI n)] from ?_) rfl ?_
              · rw [j4 4 (by decide) (by decide), h4]
              refine xw_go xb_47 1 (f1 := (if ¬ (nI n) = (nI c) then 126 else 122, [.ref 43, .int (nI lim), .int (nI n), .int (xsv (xlt T t (xrp T t p n)))], [])) (h1 := (xS b, J, L, xP b)) rfl trivial ?_
              refine xw_if (fun c_119 => ?_) (fun c_119 => ?_)
              · skip
                refine xw_go xb_47 1 (f1 := (127, [.ref 43, .int (nI lim), .int (nI n), .int (xsv (xlt T t (xrp T t p n)))], [.int 0])) (h1 := (xS b, J, L, xP b)) rfl trivial ?_
                refine xw_ret xb_47 rfl rfl ?_ ?_
                · first | exact Or.inl rfl | exact Or.inr rfl
                rw [nI_eq (by omega) (by omega)] at c_119
                refine ⟨by rw [show decide (n = c) = false from decide_eq_false (by omega)]; rfl, _, rfl, j1, j2, ?_, j3, fun j h1 h2 h3 => j4 j h1 h3, j5, j6⟩
                rw [j4 4 (by decide) (by decide), h4]
              · skip
                refine xw_go xb_47 2 (f1 := (127, [.ref 43, .int (nI lim), .int (nI n), .int (xsv (xlt T t (xrp T t p n)))], [.int 1])) (h1 := (xS b, J, L, xP b)) rfl trivial ?_
                refine xw_ret xb_47 rfl rfl ?_ ?_
                · first | exact Or.inl rfl | exact Or.inr rfl
                rw [nI_eq (by omega) (by omega)] at c_119
                refine ⟨by rw [show decide (n = c) = true from decide_eq_true (by omega)]; rfl, _, rfl, j1, j2, ?_, j3, fun j h1 h2 h3 => j4 j h1 h3, j5, j6⟩
                rw [j4 4 (by decide) (by decide), h4]
            · skip
              exfalso
              rw [Classical.not_not, xl_1, nI_eq (by omega) (by omega)] at c_95
              omega
          · skip
            exfalso
            simp (disch := omega) only [xl_64, nI_leI] at c_30 c_43
            have q := nf (by omega)
            rw [xsv_ge, Classical.not_not] at c_34
            exact absurd (decide_eq_true c_34) (by unfold xfr9 at q; rw [q]; decide)
  · skip
    exfalso
    rw [h3, Classical.not_not, xl_1, nI_eq (by omega) (by omega)] at c_5
    omega

