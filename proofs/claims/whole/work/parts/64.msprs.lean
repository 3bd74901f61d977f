/-! ===== the model reads: sprinklers ===== -/
theorem m_kind {d : Nat} {h : xm_H} {Q : Option Value → xm_H → Prop} {x1 x2 x3 : Int32} {l : Nat} (hl : l ≤ 126) (k : xm_W d 139 (113, [.ref 60, .int x1, .int x2, .int x3, .int (nI l), .float 0, .float 0, .float 0, .float 0, .float 0], [.int (xkv l)]) h Q) : xm_W d 139 (57, [.ref 60, .int x1, .int x2, .int x3, .int (nI l), .float 0, .float 0, .float 0, .float 0, .float 0], []) h Q := by
  refine xw_go xb_139 3 (f1 := (if ¬ (nI l) = 114 then 68 else 64, [.ref 60, .int x1, .int x2, .int x3, .int (nI l), .float 0, .float 0, .float 0, .float 0, .float 0], [])) (h1 := h) rfl trivial ?_
  refine xw_if (fun c_61 => ?_) (fun c_61 => ?_)
  · skip
    refine xw_go xb_139 3 (f1 := (if ¬ (nI l) = 101 then 79 else 75, [.ref 60, .int x1, .int x2, .int x3, .int (nI l), .float 0, .float 0, .float 0, .float 0, .float 0], [])) (h1 := h) rfl trivial ?_
    refine xw_if (fun c_72 => ?_) (fun c_72 => ?_)
    · skip
      refine xw_go xb_139 3 (f1 := (if ¬ (nI l) = 113 then 90 else 86, [.ref 60, .int x1, .int x2, .int x3, .int (nI l), .float 0, .float 0, .float 0, .float 0, .float 0], [])) (h1 := h) rfl trivial ?_
      refine xw_if (fun c_83 => ?_) (fun c_83 => ?_)
      · skip
        refine xw_go xb_139 3 (f1 := (if ¬ (nI l) = 100 then 101 else 97, [.ref 60, .int x1, .int x2, .int x3, .int (nI l), .float 0, .float 0, .float 0, .float 0, .float 0], [])) (h1 := h) rfl trivial ?_
        refine xw_if (fun c_94 => ?_) (fun c_94 => ?_)
        · skip
          refine xw_go xb_139 3 (f1 := (if ¬ (nI l) = 119 then 112 else 108, [.ref 60, .int x1, .int x2, .int x3, .int (nI l), .float 0, .float 0, .float 0, .float 0, .float 0], [])) (h1 := h) rfl trivial ?_
          refine xw_if (fun c_105 => ?_) (fun c_105 => ?_)
          · skip
            refine xw_go xb_139 1 (f1 := (113, [.ref 60, .int x1, .int x2, .int x3, .int (nI l), .float 0, .float 0, .float 0, .float 0, .float 0], [.int (-1)])) (h1 := h) rfl trivial ?_
            simp (disch := omega) only [xl_114, xl_101, xl_113, xl_100, xl_119, nI_eq, Classical.not_not] at c_61 c_72 c_83 c_94 c_105
            refine xw_cong rfl ?_ rfl k
            unfold xkv xkc
            simp only [c_61, c_72, c_83, c_94, c_105, if_false]
            rfl
          · skip
            refine xw_go xb_139 2 (f1 := (113, [.ref 60, .int x1, .int x2, .int x3, .int (nI l), .float 0, .float 0, .float 0, .float 0, .float 0], [.int 4])) (h1 := h) rfl trivial ?_
            simp (disch := omega) only [xl_114, xl_101, xl_113, xl_100, xl_119, nI_eq, Classical.not_not] at c_61 c_72 c_83 c_94 c_105
            refine xw_cong rfl ?_ rfl k
            rw [c_105]
            rfl
        · skip
          refine xw_go xb_139 2 (f1 := (113, [.ref 60, .int x1, .int x2, .int x3, .int (nI l), .float 0, .float 0, .float 0, .float 0, .float 0], [.int 3])) (h1 := h) rfl trivial ?_
          simp (disch := omega) only [xl_114, xl_101, xl_113, xl_100, xl_119, nI_eq, Classical.not_not] at c_61 c_72 c_83 c_94
          refine xw_cong rfl ?_ rfl k
          rw [c_94]
          rfl
      · skip
        refine xw_go xb_139 2 (f1 := (113, [.ref 60, .int x1, .int x2, .int x3, .int (nI l), .float 0, .float 0, .float 0, .float 0, .float 0], [.int 2])) (h1 := h) rfl trivial ?_
        simp (disch := omega) only [xl_114, xl_101, xl_113, xl_100, xl_119, nI_eq, Classical.not_not] at c_61 c_72 c_83
        refine xw_cong rfl ?_ rfl k
        rw [c_83]
        rfl
    · skip
      refine xw_go xb_139 2 (f1 := (113, [.ref 60, .int x1, .int x2, .int x3, .int (nI l), .float 0, .float 0, .float 0, .float 0, .float 0], [.int 1])) (h1 := h) rfl trivial ?_
      simp (disch := omega) only [xl_114, xl_101, xl_113, xl_100, xl_119, nI_eq, Classical.not_not] at c_61 c_72
      refine xw_cong rfl ?_ rfl k
      rw [c_72]
      rfl
  · skip
    refine xw_go xb_139 2 (f1 := (113, [.ref 60, .int x1, .int x2, .int x3, .int (nI l), .float 0, .float 0, .float 0, .float 0, .float 0], [.int 0])) (h1 := h) rfl trivial ?_
    simp (disch := omega) only [xl_114, xl_101, xl_113, xl_100, xl_119, nI_eq, Classical.not_not] at c_61
    refine xw_cong rfl ?_ rfl k
    rw [c_61]
    rfl
theorem xkv_k {l : Nat} (h : xkc l < 5) : xkv l = nI (xkc l) := by unfold xkv; rw [if_pos h]
theorem xkv_n {l : Nat} (h : ¬ xkc l < 5) : xkv l = -1 := by unfold xkv; rw [if_neg h]
theorem xr5_d {T : Nat → Nat} {t R c p i m : Nat} (h : m ≤ xsm T t R c p i) (hm : m ≤ 5) : (0 < m → xkc (xlt T t (xrp T t (xsp T t p i) 0)) < 5) ∧ (1 < m → 48 ≤ xlt T t (xrp T t (xsp T t p i) 1) ∧ xlt T t (xrp T t (xsp T t p i) 1) < 48 + R) ∧ (2 < m → 48 ≤ xlt T t (xrp T t (xsp T t p i) 2) ∧ xlt T t (xrp T t (xsp T t p i) 2) < 48 + c) ∧ (3 < m → 48 ≤ xlt T t (xrp T t (xsp T t p i) 3) ∧ xlt T t (xrp T t (xsp T t p i) 3) < 53) ∧ (4 < m → 49 ≤ xlt T t (xrp T t (xsp T t p i) 4) ∧ xlt T t (xrp T t (xsp T t p i) 4) < 58) := by
  have f := fun j (hj : j < m) => xld_t (f := xf5 T t R c (xsp T t p i)) 5 j (by unfold xsm at h; omega)
  exact ⟨fun q => of_decide_eq_true (show decide (xkc (xlt T t (xrp T t (xsp T t p i) 0)) < 5) = true from f 0 q), fun q => of_decide_eq_true (show decide (48 ≤ xlt T t (xrp T t (xsp T t p i) 1) ∧ xlt T t (xrp T t (xsp T t p i) 1) < 48 + R) = true from f 1 q), fun q => of_decide_eq_true (show decide (48 ≤ xlt T t (xrp T t (xsp T t p i) 2) ∧ xlt T t (xrp T t (xsp T t p i) 2) < 48 + c) = true from f 2 q), fun q => of_decide_eq_true (show decide (48 ≤ xlt T t (xrp T t (xsp T t p i) 3) ∧ xlt T t (xrp T t (xsp T t p i) 3) < 53) = true from f 3 q), fun q => of_decide_eq_true (show decide (49 ≤ xlt T t (xrp T t (xsp T t p i) 4) ∧ xlt T t (xrp T t (xsp T t p i) 4) < 58) = true from f 4 q)⟩
theorem m_sprT {d : Nat} {b : Bool} {J : Nat → Nat → Int32} {L : Nat → Nat → Int64} {Q : Option Value → xm_H → Prop} {T : Nat → Nat} {t : Nat} (hR : xMR T t J) {R c p i : Nat} (h6 : J 60 6 = 0) (h5 : J 60 5 = nI (xsp T t p i)) (hs : xsp T t p i ≤ t) (bR : 2 ≤ R ∧ R ≤ 8) (bc : 2 ≤ c ∧ c ≤ 8) (hi : i < 5) (hm : xsm T t R c p i = 5) (k : ∀ K : Nat → Nat → Int32, (∀ q, q ≠ 60 → q ≠ 66 → K q = J q) → (∀ j, j ≠ 5 → K 60 j = J 60 j) → K 60 5 = nI (xrp T t (xsp T t p i) 5) → (∀ f, f < 4 → K 66 (4 * i + f) = nI (xzd T t c p i f)) → (∀ j, j < 4 * i → K 66 j = J 66 j) → xm_W (d + 2) 139 (2, [.ref 60, .int (nI R), .int (nI c), .int (nI (i + 1)), .float 0, .float 0, .float 0, .float 0, .float 0, .float 0], []) (xS b, K, L, xP b) Q) : xm_W (d + 2) 139 (40, [.ref 60, .int (nI R), .int (nI c), .int (nI i), .float 0, .float 0, .float 0, .float 0, .float 0, .float 0], []) (xS b, J, L, xP b) Q := by
  obtain ⟨f0, f1, f2, f3, f4⟩ := xr5_d (T := T) (t := t) (R := R) (c := c) (p := p) (i := i) (m := 5) (by omega) (by decide)
  replace f0 := f0 (by decide)
  replace f1 := f1 (by decide)
  replace f2 := f2 (by decide)
  replace f3 := f3 (by decide)
  replace f4 := f4 (by decide)
  have rl : ∀ k, k ≤ 5 → xrp T t (xsp T t p i) k ≤ t := xr5_le (R := R) (c := c) hs (fun j hj => xld_t 5 j (by unfold xsm at hm; omega))
  refine xw_go xb_139 2 (f1 := (44, [.ref 60, .int (nI R), .int (nI c), .int (nI i), .float 0, .float 0, .float 0, .float 0, .float 0, .float 0], [.int (J 60 6)])) (h1 := (xS b, J, L, xP b)) rfl ⟨rfl, trivial⟩ ?_
  refine xw_cong (l' := [.ref 60, .int (nI R), .int (nI c), .int (nI i), .float 0, .float 0, .float 0, .float 0, .float 0, .float 0]) (st' := [.int 0]) (h' := (xS b, J, L, xP b)) rfl (show ([.int (J 60 6)] : List Value) = [.int 0] from ?_) rfl ?_
  · rw [h6]
  refine xw_go xb_139 2 (f1 := (52, [.ref 60, .int (nI R), .int (nI c), .int (nI i), .float 0, .float 0, .float 0, .float 0, .float 0, .float 0], [.ref 60])) (h1 := (xS b, J, L, xP b)) rfl trivial ?_
  refine xw_call xb_139 rfl rfl rfl rfl rfl (Or.inr ⟨_, _, rfl, rfl⟩) (m_here (I := J) (a := (xsp T t p i)) hR h5 hs) ?_
  rintro _ _ ⟨rfl, rfl⟩
  refine xw_at (f' := (55, [.ref 60, .int (nI R), .int (nI c), .int (nI i), .float 0, .float 0, .float 0, .float 0, .float 0, .float 0], [.int (nI (xlt T t (xsp T t p i)))])) (h' := (xS b, xm_up J 60 5 (nI (xsk T t (xsp T t p i))), L, xP b)) rfl rfl ?_
  refine xw_go xb_139 1 (f1 := (57, [.ref 60, .int (nI R), .int (nI c), .int (nI i), .int (nI (xlt T t (xsp T t p i))), .float 0, .float 0, .float 0, .float 0, .float 0], [])) (h1 := (xS b, xm_up J 60 5 (nI (xsk T t (xsp T t p i))), L, xP b)) rfl trivial ?_
  refine m_kind (l := xlt T t (xsp T t p i)) (xlt_le hR.2.1) ?_
  refine xw_cong (l' := [.ref 60, .int (nI R), .int (nI c), .int (nI i), .int (nI (xlt T t (xsp T t p i))), .float 0, .float 0, .float 0, .float 0, .float 0]) (st' := [.int (nI (xkc (xlt T t (xrp T t (xsp T t p i) 0))))]) (h' := (xS b, xm_up J 60 5 (nI (xsk T t (xsp T t p i))), L, xP b)) rfl (show ([.int (xkv (xlt T t (xsp T t p i)))] : List Value) = [.int (nI (xkc (xlt T t (xrp T t (xsp T t p i) 0))))] from ?_) rfl ?_
  · exact congrArg (fun q => [Value.int q]) (xkv_k f0)
  refine xw_go xb_139 4 (f1 := (if (nI (xkc (xlt T t (xrp T t (xsp T t p i) 0)))) < 0 then 125 else 121, [.ref 60, .int (nI R), .int (nI c), .int (nI i), .int (nI (xlt T t (xsp T t p i))), .int (nI (xkc (xlt T t (xrp T t (xsp T t p i) 0)))), .float 0, .float 0, .float 0, .float 0], [.ref 60])) (h1 := (xS b, xm_up J 60 5 (nI (xsk T t (xsp T t p i))), L, xP b)) rfl trivial ?_
  refine xw_if (fun c_118 => ?_) (fun c_118 => ?_)
  · skip
    exfalso
    rw [xl_0, nI_ltI (by omega) (by omega)] at c_118
    omega
  · skip
    refine xw_go xb_139 2 (f1 := (126, [.ref 60, .int (nI R), .int (nI c), .int (nI i), .int (nI (xlt T t (xsp T t p i))), .int (nI (xkc (xlt T t (xrp T t (xsp T t p i) 0)))), .float 0, .float 0, .float 0, .float 0], [.int 1, .ref 60])) (h1 := (xS b, xm_up J 60 5 (nI (xsk T t (xsp T t p i))), L, xP b)) rfl trivial ?_
    refine xw_call xb_139 rfl rfl rfl rfl rfl (Or.inr ⟨_, _, rfl, rfl⟩) (m_must1 (I := (xm_up J 60 5 (nI (xsk T t (xsp T t p i))))) (a := xsk T t (xrp T t (xsp T t p i) 0)) (by rw [xm_up_ne (Or.inr (by decide))]; exact h6) (xm_up_at _ _ _ _) rfl) ?_
    rintro _ _ ⟨rfl, rfl⟩
    refine xw_at (f' := (129, [.ref 60, .int (nI R), .int (nI c), .int (nI i), .int (nI (xlt T t (xsp T t p i))), .int (nI (xkc (xlt T t (xrp T t (xsp T t p i) 0)))), .float 0, .float 0, .float 0, .float 0], [])) (h' := (xS b, xm_up (xm_up J 60 5 (nI (xsk T t (xsp T t p i)))) 60 5 (nI (xsk T t (xrp T t (xsp T t p i) 0) + 1)), L, xP b)) rfl rfl ?_
    refine xw_at (f' := (129, [.ref 60, .int (nI R), .int (nI c), .int (nI i), .int (nI (xlt T t (xsp T t p i))), .int (nI (xkc (xlt T t (xrp T t (xsp T t p i) 0)))), .float 0, .float 0, .float 0, .float 0], [])) (h' := (xS b, xm_up J 60 5 (nI (xrp T t (xsp T t p i) 1)), L, xP b)) rfl (show (xS b, xm_up (xm_up J 60 5 (nI (xsk T t (xsp T t p i)))) 60 5 (nI (xsk T t (xrp T t (xsp T t p i) 0) + 1)), L, xP b) = (xS b, xm_up J 60 5 (nI (xrp T t (xsp T t p i) 1)), L, xP b) from ?_) ?_
    · rw [xup_2]
      rfl
    have r1 := (xMR_fr (J := xm_up J 60 5 (nI (xrp T t (xsp T t p i) 1))) hR (by rw [xm_up_ne (Or.inr (by decide))]) (by rw [xm_up_o (by decide)]))
    refine xw_go xb_139 5 (f1 := (134, [.ref 60, .int (nI R), .int (nI c), .int (nI i), .int (nI (xlt T t (xsp T t p i))), .int (nI (xkc (xlt T t (xrp T t (xsp T t p i) 0)))), .float 0, .float 0, .float 0, .float 0], [.int ((nI R) - 1), .int 0, .ref 60])) (h1 := (xS b, xm_up J 60 5 (nI (xrp T t (xsp T t p i) 1)), L, xP b)) rfl trivial ?_
    refine xw_cong (l' := [.ref 60, .int (nI R), .int (nI c), .int (nI i), .int (nI (xlt T t (xsp T t p i))), .int (nI (xkc (xlt T t (xrp T t (xsp T t p i) 0)))), .float 0, .float 0, .float 0, .float 0]) (st' := [.int (nI (R - 1)), .int 0, .ref 60]) (h' := (xS b, xm_up J 60 5 (nI (xrp T t (xsp T t p i) 1)), L, xP b)) rfl (show ([.int ((nI R) - 1), .int 0, .ref 60] : List Value) = [.int (nI (R - 1)), .int 0, .ref 60] from ?_) rfl ?_
    · rw [xl_1, xn_sub (by omega)]
    refine xw_call xb_139 rfl rfl rfl rfl rfl (Or.inr ⟨_, _, rfl, rfl⟩) (m_digit1 (I := (xm_up J 60 5 (nI (xrp T t (xsp T t p i) 1)))) (a := (xrp T t (xsp T t p i) 1)) (lo := 0) (hi := (R - 1)) r1 (by rw [xm_up_ne (Or.inr (by decide))]; exact h6) (xm_up_at _ _ _ _) (rl 1 (by omega)) (by omega) (by omega) (by omega) rfl rfl) ?_
    rintro _ _ ⟨rfl, rfl⟩
    refine xw_at (f' := (137, [.ref 60, .int (nI R), .int (nI c), .int (nI i), .int (nI (xlt T t (xsp T t p i))), .int (nI (xkc (xlt T t (xrp T t (xsp T t p i) 0)))), .float 0, .float 0, .float 0, .float 0], [.int (nI ((xlt T t (xrp T t (xsp T t p i) 1)) - 48))])) (h' := (xS b, xm_up (xm_up J 60 5 (nI (xrp T t (xsp T t p i) 1))) 60 5 (nI (xsk T t (xrp T t (xsp T t p i) 1) + 1)), L, xP b)) rfl rfl ?_
    refine xw_at (f' := (137, [.ref 60, .int (nI R), .int (nI c), .int (nI i), .int (nI (xlt T t (xsp T t p i))), .int (nI (xkc (xlt T t (xrp T t (xsp T t p i) 0)))), .float 0, .float 0, .float 0, .float 0], [.int (nI ((xlt T t (xrp T t (xsp T t p i) 1)) - 48))])) (h' := (xS b, xm_up J 60 5 (nI (xrp T t (xsp T t p i) 2)), L, xP b)) rfl (show (xS b, xm_up (xm_up J 60 5 (nI (xrp T t (xsp T t p i) 1))) 60 5 (nI (xsk T t (xrp T t (xsp T t p i) 1) + 1)), L, xP b) = (xS b, xm_up J 60 5 (nI (xrp T t (xsp T t p i) 2)), L, xP b) from ?_) ?_
    · rw [xup_2]
      rfl
    have r2 := (xMR_fr (J := xm_up J 60 5 (nI (xrp T t (xsp T t p i) 2))) hR (by rw [xm_up_ne (Or.inr (by decide))]) (by rw [xm_up_o (by decide)]))
    refine xw_go xb_139 6 (f1 := (144, [.ref 60, .int (nI R), .int (nI c), .int (nI i), .int (nI (xlt T t (xsp T t p i))), .int (nI (xkc (xlt T t (xrp T t (xsp T t p i) 0)))), .int (nI ((xlt T t (xrp T t (xsp T t p i) 1)) - 48)), .float 0, .float 0, .float 0], [.int ((nI c) - 1), .int 0, .ref 60])) (h1 := (xS b, xm_up J 60 5 (nI (xrp T t (xsp T t p i) 2)), L, xP b)) rfl trivial ?_
    refine xw_cong (l' := [.ref 60, .int (nI R), .int (nI c), .int (nI i), .int (nI (xlt T t (xsp T t p i))), .int (nI (xkc (xlt T t (xrp T t (xsp T t p i) 0)))), .int (nI ((xlt T t (xrp T t (xsp T t p i) 1)) - 48)), .float 0, .float 0, .float 0]) (st' := [.int (nI (c - 1)), .int 0, .ref 60]) (h' := (xS b, xm_up J 60 5 (nI (xrp T t (xsp T t p i) 2)), L, xP b)) rfl (show ([.int ((nI c) - 1), .int 0, .ref 60] : List Value) = [.int (nI (c - 1)), .int 0, .ref 60] from ?_) rfl ?_
    · rw [xl_1, xn_sub (by omega)]
    refine xw_call xb_139 rfl rfl rfl rfl rfl (Or.inr ⟨_, _, rfl, rfl⟩) (m_digit1 (I := (xm_up J 60 5 (nI (xrp T t (xsp T t p i) 2)))) (a := (xrp T t (xsp T t p i) 2)) (lo := 0) (hi := (c - 1)) r2 (by rw [xm_up_ne (Or.inr (by decide))]; exact h6) (xm_up_at _ _ _ _) (rl 2 (by omega)) (by omega) (by omega) (by omega) rfl rfl) ?_
    rintro _ _ ⟨rfl, rfl⟩
    refine xw_at (f' := (147, [.ref 60, .int (nI R), .int (nI c), .int (nI i), .int (nI (xlt T t (xsp T t p i))), .int (nI (xkc (xlt T t (xrp T t (xsp T t p i) 0)))), .int (nI ((xlt T t (xrp T t (xsp T t p i) 1)) - 48)), .float 0, .float 0, .float 0], [.int (nI ((xlt T t (xrp T t (xsp T t p i) 2)) - 48))])) (h' := (xS b, xm_up (xm_up J 60 5 (nI (xrp T t (xsp T t p i) 2))) 60 5 (nI (xsk T t (xrp T t (xsp T t p i) 2) + 1)), L, xP b)) rfl rfl ?_
    refine xw_at (f' := (147, [.ref 60, .int (nI R), .int (nI c), .int (nI i), .int (nI (xlt T t (xsp T t p i))), .int (nI (xkc (xlt T t (xrp T t (xsp T t p i) 0)))), .int (nI ((xlt T t (xrp T t (xsp T t p i) 1)) - 48)), .float 0, .float 0, .float 0], [.int (nI ((xlt T t (xrp T t (xsp T t p i) 2)) - 48))])) (h' := (xS b, xm_up J 60 5 (nI (xrp T t (xsp T t p i) 3)), L, xP b)) rfl (show (xS b, xm_up (xm_up J 60 5 (nI (xrp T t (xsp T t p i) 2))) 60 5 (nI (xsk T t (xrp T t (xsp T t p i) 2) + 1)), L, xP b) = (xS b, xm_up J 60 5 (nI (xrp T t (xsp T t p i) 3)), L, xP b) from ?_) ?_
    · rw [xup_2]
      rfl
    have r3 := (xMR_fr (J := xm_up J 60 5 (nI (xrp T t (xsp T t p i) 3))) hR (by rw [xm_up_ne (Or.inr (by decide))]) (by rw [xm_up_o (by decide)]))
    refine xw_go xb_139 4 (f1 := (152, [.ref 60, .int (nI R), .int (nI c), .int (nI i), .int (nI (xlt T t (xsp T t p i))), .int (nI (xkc (xlt T t (xrp T t (xsp T t p i) 0)))), .int (nI ((xlt T t (xrp T t (xsp T t p i) 1)) - 48)), .int (nI ((xlt T t (xrp T t (xsp T t p i) 2)) - 48)), .float 0, .float 0], [.int 4, .int 0, .ref 60])) (h1 := (xS b, xm_up J 60 5 (nI (xrp T t (xsp T t p i) 3)), L, xP b)) rfl trivial ?_
    refine xw_call xb_139 rfl rfl rfl rfl rfl (Or.inr ⟨_, _, rfl, rfl⟩) (m_digit1 (I := (xm_up J 60 5 (nI (xrp T t (xsp T t p i) 3)))) (a := (xrp T t (xsp T t p i) 3)) (lo := 0) (hi := 4) r3 (by rw [xm_up_ne (Or.inr (by decide))]; exact h6) (xm_up_at _ _ _ _) (rl 3 (by omega)) (by omega) (by omega) (by omega) rfl rfl) ?_
    rintro _ _ ⟨rfl, rfl⟩
    refine xw_at (f' := (155, [.ref 60, .int (nI R), .int (nI c), .int (nI i), .int (nI (xlt T t (xsp T t p i))), .int (nI (xkc (xlt T t (xrp T t (xsp T t p i) 0)))), .int (nI ((xlt T t (xrp T t (xsp T t p i) 1)) - 48)), .int (nI ((xlt T t (xrp T t (xsp T t p i) 2)) - 48)), .float 0, .float 0], [.int (nI ((xlt T t (xrp T t (xsp T t p i) 3)) - 48))])) (h' := (xS b, xm_up (xm_up J 60 5 (nI (xrp T t (xsp T t p i) 3))) 60 5 (nI (xsk T t (xrp T t (xsp T t p i) 3) + 1)), L, xP b)) rfl rfl ?_
    refine xw_at (f' := (155, [.ref 60, .int (nI R), .int (nI c), .int (nI i), .int (nI (xlt T t (xsp T t p i))), .int (nI (xkc (xlt T t (xrp T t (xsp T t p i) 0)))), .int (nI ((xlt T t (xrp T t (xsp T t p i) 1)) - 48)), .int (nI ((xlt T t (xrp T t (xsp T t p i) 2)) - 48)), .float 0, .float 0], [.int (nI ((xlt T t (xrp T t (xsp T t p i) 3)) - 48))])) (h' := (xS b, xm_up J 60 5 (nI (xrp T t (xsp T t p i) 4)), L, xP b)) rfl (show (xS b, xm_up (xm_up J 60 5 (nI (xrp T t (xsp T t p i) 3))) 60 5 (nI (xsk T t (xrp T t (xsp T t p i) 3) + 1)), L, xP b) = (xS b, xm_up J 60 5 (nI (xrp T t (xsp T t p i) 4)), L, xP b) from ?_) ?_
    · rw [xup_2]
      rfl
    have r4 := (xMR_fr (J := xm_up J 60 5 (nI (xrp T t (xsp T t p i) 4))) hR (by rw [xm_up_ne (Or.inr (by decide))]) (by rw [xm_up_o (by decide)]))
    refine xw_go xb_139 4 (f1 := (161, [.ref 60, .int (nI R), .int (nI c), .int (nI i), .int (nI (xlt T t (xsp T t p i))), .int (nI (xkc (xlt T t (xrp T t (xsp T t p i) 0)))), .int (nI ((xlt T t (xrp T t (xsp T t p i) 1)) - 48)), .int (nI ((xlt T t (xrp T t (xsp T t p i) 2)) - 48)), .int (nI ((xlt T t (xrp T t (xsp T t p i) 3)) - 48)), .float 0], [.int 9, .int 1, .ref 60])) (h1 := (xS b, xm_up J 60 5 (nI (xrp T t (xsp T t p i) 4)), L, xP b)) rfl trivial ?_
    refine xw_call xb_139 rfl rfl rfl rfl rfl (Or.inr ⟨_, _, rfl, rfl⟩) (m_digit1 (I := (xm_up J 60 5 (nI (xrp T t (xsp T t p i) 4)))) (a := (xrp T t (xsp T t p i) 4)) (lo := 1) (hi := 9) r4 (by rw [xm_up_ne (Or.inr (by decide))]; exact h6) (xm_up_at _ _ _ _) (rl 4 (by omega)) (by omega) (by omega) (by omega) rfl rfl) ?_
    rintro _ _ ⟨rfl, rfl⟩
    refine xw_at (f' := (164, [.ref 60, .int (nI R), .int (nI c), .int (nI i), .int (nI (xlt T t (xsp T t p i))), .int (nI (xkc (xlt T t (xrp T t (xsp T t p i) 0)))), .int (nI ((xlt T t (xrp T t (xsp T t p i) 1)) - 48)), .int (nI ((xlt T t (xrp T t (xsp T t p i) 2)) - 48)), .int (nI ((xlt T t (xrp T t (xsp T t p i) 3)) - 48)), .float 0], [.int (nI ((xlt T t (xrp T t (xsp T t p i) 4)) - 48))])) (h' := (xS b, xm_up (xm_up J 60 5 (nI (xrp T t (xsp T t p i) 4))) 60 5 (nI (xsk T t (xrp T t (xsp T t p i) 4) + 1)), L, xP b)) rfl rfl ?_
    refine xw_at (f' := (164, [.ref 60, .int (nI R), .int (nI c), .int (nI i), .int (nI (xlt T t (xsp T t p i))), .int (nI (xkc (xlt T t (xrp T t (xsp T t p i) 0)))), .int (nI ((xlt T t (xrp T t (xsp T t p i) 1)) - 48)), .int (nI ((xlt T t (xrp T t (xsp T t p i) 2)) - 48)), .int (nI ((xlt T t (xrp T t (xsp T t p i) 3)) - 48)), .float 0], [.int (nI ((xlt T t (xrp T t (xsp T t p i) 4)) - 48))])) (h' := (xS b, xm_up J 60 5 (nI (xrp T t (xsp T t p i) 5)), L, xP b)) rfl (show (xS b, xm_up (xm_up J 60 5 (nI (xrp T t (xsp T t p i) 4))) 60 5 (nI (xsk T t (xrp T t (xsp T t p i) 4) + 1)), L, xP b) = (xS b, xm_up J 60 5 (nI (xrp T t (xsp T t p i) 5)), L, xP b) from ?_) ?_
    · rw [xup_2]
      rfl
    refine xw_go xb_139 3 (f1 := (170, [.ref 60, .int (nI R), .int (nI c), .int (nI i), .int (nI (xlt T t (xsp T t p i))), .int (nI (xkc (xlt T t (xrp T t (xsp T t p i) 0)))), .int (nI ((xlt T t (xrp T t (xsp T t p i) 1)) - 48)), .int (nI ((xlt T t (xrp T t (xsp T t p i) 2)) - 48)), .int (nI ((xlt T t (xrp T t (xsp T t p i) 3)) - 48)), .int (nI ((xlt T t (xrp T t (xsp T t p i) 4)) - 48))], [.int ((xm_up J 60 5 (nI (xrp T t (xsp T t p i) 5))) 60 6)])) (h1 := (xS b, xm_up J 60 5 (nI (xrp T t (xsp T t p i) 5)), L, xP b)) rfl ⟨rfl, trivial⟩ ?_
    refine xw_cong (l' := [.ref 60, .int (nI R), .int (nI c), .int (nI i), .int (nI (xlt T t (xsp T t p i))), .int (nI (xkc (xlt T t (xrp T t (xsp T t p i) 0)))), .int (nI ((xlt T t (xrp T t (xsp T t p i) 1)) - 48)), .int (nI ((xlt T t (xrp T t (xsp T t p i) 2)) - 48)), .int (nI ((xlt T t (xrp T t (xsp T t p i) 3)) - 48)), .int (nI ((xlt T t (xrp T t (xsp T t p i) 4)) - 48))]) (st' := [.int 0]) (h' := (xS b, xm_up J 60 5 (nI (xrp T t (xsp T t p i) 5)), L, xP b)) rfl (show ([.int ((xm_up J 60 5 (nI (xrp T t (xsp T t p i) 5))) 60 6)] : List Value) = [.int 0] from ?_) rfl ?_
    · rw [xm_up_ne (Or.inr (by decide)), h6]
    refine xw_go xb_139 6 (f1 := (180, [.ref 60, .int (nI R), .int (nI c), .int (nI i), .int (nI (xlt T t (xsp T t p i))), .int (nI (xkc (xlt T t (xrp T t (xsp T t p i) 0)))), .int (nI ((xlt T t (xrp T t (xsp T t p i) 1)) - 48)), .int (nI ((xlt T t (xrp T t (xsp T t p i) 2)) - 48)), .int (nI ((xlt T t (xrp T t (xsp T t p i) 3)) - 48)), .int (nI ((xlt T t (xrp T t (xsp T t p i) 4)) - 48))], [.int (4 * (nI i)), .ref 66])) (h1 := (xS b, xm_up J 60 5 (nI (xrp T t (xsp T t p i) 5)), L, xP b)) rfl ⟨rfl, trivial⟩ ?_
    refine xw_cong (l' := [.ref 60, .int (nI R), .int (nI c), .int (nI i), .int (nI (xlt T t (xsp T t p i))), .int (nI (xkc (xlt T t (xrp T t (xsp T t p i) 0)))), .int (nI ((xlt T t (xrp T t (xsp T t p i) 1)) - 48)), .int (nI ((xlt T t (xrp T t (xsp T t p i) 2)) - 48)), .int (nI ((xlt T t (xrp T t (xsp T t p i) 3)) - 48)), .int (nI ((xlt T t (xrp T t (xsp T t p i) 4)) - 48))]) (st' := [.int (nI (4 * i + 0)), .ref 66]) (h' := (xS b, xm_up J 60 5 (nI (xrp T t (xsp T t p i) 5)), L, xP b)) rfl (show ([.int (4 * (nI i)), .ref 66] : List Value) = [.int (nI (4 * i + 0)), .ref 66] from ?_) rfl ?_
    · rw [xl_4, pk_mul, Nat.add_zero]
    refine xw_go xb_139 7 (f1 := (190, [.ref 60, .int (nI R), .int (nI c), .int (nI i), .int (nI (xlt T t (xsp T t p i))), .int (nI (xkc (xlt T t (xrp T t (xsp T t p i) 0)))), .int (nI ((xlt T t (xrp T t (xsp T t p i) 1)) - 48)), .int (nI ((xlt T t (xrp T t (xsp T t p i) 2)) - 48)), .int (nI ((xlt T t (xrp T t (xsp T t p i) 3)) - 48)), .int (nI ((xlt T t (xrp T t (xsp T t p i) 4)) - 48))], [.int (4 * (nI i)), .ref 66])) (h1 := (xS b, xm_up (xm_up J 60 5 (nI (xrp T t (xsp T t p i) 5))) 66 (nI (4 * i + 0)).toNatClampNeg (nI (xkc (xlt T t (xrp T t (xsp T t p i) 0)))), L, xP b)) rfl ⟨(xn_ar (n := 4 * i + 0) (N := 20) rfl (by omega) (by decide)), rfl, trivial⟩ ?_
    refine xw_cong (l' := [.ref 60, .int (nI R), .int (nI c), .int (nI i), .int (nI (xlt T t (xsp T t p i))), .int (nI (xkc (xlt T t (xrp T t (xsp T t p i) 0)))), .int (nI ((xlt T t (xrp T t (xsp T t p i) 1)) - 48)), .int (nI ((xlt T t (xrp T t (xsp T t p i) 2)) - 48)), .int (nI ((xlt T t (xrp T t (xsp T t p i) 3)) - 48)), .int (nI ((xlt T t (xrp T t (xsp T t p i) 4)) - 48))]) (st' := [.int (nI (4 * i)), .ref 66]) (h' := (xS b, xm_up (xm_up J 60 5 (nI (xrp T t (xsp T t p i) 5))) 66 (nI (4 * i + 0)).toNatClampNeg (nI (xkc (xlt T t (xrp T t (xsp T t p i) 0)))), L, xP b)) rfl (show ([.int (4 * (nI i)), .ref 66] : List Value) = [.int (nI (4 * i)), .ref 66] from ?_) rfl ?_
    · rw [xl_4, pk_mul]
    refine xw_go xb_139 2 (f1 := (192, [.ref 60, .int (nI R), .int (nI c), .int (nI i), .int (nI (xlt T t (xsp T t p i))), .int (nI (xkc (xlt T t (xrp T t (xsp T t p i) 0)))), .int (nI ((xlt T t (xrp T t (xsp T t p i) 1)) - 48)), .int (nI ((xlt T t (xrp T t (xsp T t p i) 2)) - 48)), .int (nI ((xlt T t (xrp T t (xsp T t p i) 3)) - 48)), .int (nI ((xlt T t (xrp T t (xsp T t p i) 4)) - 48))], [.int ((nI (4 * i)) + 1), .ref 66])) (h1 := (xS b, xm_up (xm_up J 60 5 (nI (xrp T t (xsp T t p i) 5))) 66 (nI (4 * i + 0)).toNatClampNeg (nI (xkc (xlt T t (xrp T t (xsp T t p i) 0)))), L, xP b)) rfl trivial ?_
    refine xw_cong (l' := [.ref 60, .int (nI R), .int (nI c), .int (nI i), .int (nI (xlt T t (xsp T t p i))), .int (nI (xkc (xlt T t (xrp T t (xsp T t p i) 0)))), .int (nI ((xlt T t (xrp T t (xsp T t p i) 1)) - 48)), .int (nI ((xlt T t (xrp T t (xsp T t p i) 2)) - 48)), .int (nI ((xlt T t (xrp T t (xsp T t p i) 3)) - 48)), .int (nI ((xlt T t (xrp T t (xsp T t p i) 4)) - 48))]) (st' := [.int (nI (4 * i + 1)), .ref 66]) (h' := (xS b, xm_up (xm_up J 60 5 (nI (xrp T t (xsp T t p i) 5))) 66 (nI (4 * i + 0)).toNatClampNeg (nI (xkc (xlt T t (xrp T t (xsp T t p i) 0)))), L, xP b)) rfl (show ([.int ((nI (4 * i)) + 1), .ref 66] : List Value) = [.int (nI (4 * i + 1)), .ref 66] from ?_) rfl ?_
    · rw [xl_1, nI_add]
    refine xw_go xb_139 5 (f1 := (199, [.ref 60, .int (nI R), .int (nI c), .int (nI i), .int (nI (xlt T t (xsp T t p i))), .int (nI (xkc (xlt T t (xrp T t (xsp T t p i) 0)))), .int (nI ((xlt T t (xrp T t (xsp T t p i) 1)) - 48)), .int (nI ((xlt T t (xrp T t (xsp T t p i) 2)) - 48)), .int (nI ((xlt T t (xrp T t (xsp T t p i) 3)) - 48)), .int (nI ((xlt T t (xrp T t (xsp T t p i) 4)) - 48))], [.int (((nI ((xlt T t (xrp T t (xsp T t p i) 1)) - 48)) * (nI c)) + (nI ((xlt T t (xrp T t (xsp T t p i) 2)) - 48))), .int (nI (4 * i + 1)), .ref 66])) (h1 := (xS b, xm_up (xm_up J 60 5 (nI (xrp T t (xsp T t p i) 5))) 66 (nI (4 * i + 0)).toNatClampNeg (nI (xkc (xlt T t (xrp T t (xsp T t p i) 0)))), L, xP b)) rfl trivial ?_
    refine xw_cong (l' := [.ref 60, .int (nI R), .int (nI c), .int (nI i), .int (nI (xlt T t (xsp T t p i))), .int (nI (xkc (xlt T t (xrp T t (xsp T t p i) 0)))), .int (nI ((xlt T t (xrp T t (xsp T t p i) 1)) - 48)), .int (nI ((xlt T t (xrp T t (xsp T t p i) 2)) - 48)), .int (nI ((xlt T t (xrp T t (xsp T t p i) 3)) - 48)), .int (nI ((xlt T t (xrp T t (xsp T t p i) 4)) - 48))]) (st' := [.int (nI (xzd T t c p i 1)), .int (nI (4 * i + 1)), .ref 66]) (h' := (xS b, xm_up (xm_up J 60 5 (nI (xrp T t (xsp T t p i) 5))) 66 (nI (4 * i + 0)).toNatClampNeg (nI (xkc (xlt T t (xrp T t (xsp T t p i) 0)))), L, xP b)) rfl (show ([.int (((nI ((xlt T t (xrp T t (xsp T t p i) 1)) - 48)) * (nI c)) + (nI ((xlt T t (xrp T t (xsp T t p i) 2)) - 48))), .int (nI (4 * i + 1)), .ref 66] : List Value) = [.int (nI (xzd T t c p i 1)), .int (nI (4 * i + 1)), .ref 66] from ?_) rfl ?_
    · rw [pk_mul, nI_add]
      rfl
    refine xw_go xb_139 6 (f1 := (207, [.ref 60, .int (nI R), .int (nI c), .int (nI i), .int (nI (xlt T t (xsp T t p i))), .int (nI (xkc (xlt T t (xrp T t (xsp T t p i) 0)))), .int (nI ((xlt T t (xrp T t (xsp T t p i) 1)) - 48)), .int (nI ((xlt T t (xrp T t (xsp T t p i) 2)) - 48)), .int (nI ((xlt T t (xrp T t (xsp T t p i) 3)) - 48)), .int (nI ((xlt T t (xrp T t (xsp T t p i) 4)) - 48))], [.int (4 * (nI i)), .ref 66])) (h1 := (xS b, xm_up (xm_up (xm_up J 60 5 (nI (xrp T t (xsp T t p i) 5))) 66 (nI (4 * i + 0)).toNatClampNeg (nI (xkc (xlt T t (xrp T t (xsp T t p i) 0))))) 66 (nI (4 * i + 1)).toNatClampNeg (nI (xzd T t c p i 1)), L, xP b)) rfl ⟨(xn_ar (n := 4 * i + 1) (N := 20) rfl (by omega) (by decide)), rfl, trivial⟩ ?_
    refine xw_cong (l' := [.ref 60, .int (nI R), .int (nI c), .int (nI i), .int (nI (xlt T t (xsp T t p i))), .int (nI (xkc (xlt T t (xrp T t (xsp T t p i) 0)))), .int (nI ((xlt T t (xrp T t (xsp T t p i) 1)) - 48)), .int (nI ((xlt T t (xrp T t (xsp T t p i) 2)) - 48)), .int (nI ((xlt T t (xrp T t (xsp T t p i) 3)) - 48)), .int (nI ((xlt T t (xrp T t (xsp T t p i) 4)) - 48))]) (st' := [.int (nI (4 * i)), .ref 66]) (h' := (xS b, xm_up (xm_up (xm_up J 60 5 (nI (xrp T t (xsp T t p i) 5))) 66 (nI (4 * i + 0)).toNatClampNeg (nI (xkc (xlt T t (xrp T t (xsp T t p i) 0))))) 66 (nI (4 * i + 1)).toNatClampNeg (nI (xzd T t c p i 1)), L, xP b)) rfl (show ([.int (4 * (nI i)), .ref 66] : List Value) = [.int (nI (4 * i)), .ref 66] from ?_) rfl ?_
    · rw [xl_4, pk_mul]
    refine xw_go xb_139 2 (f1 := (209, [.ref 60, .int (nI R), .int (nI c), .int (nI i), .int (nI (xlt T t (xsp T t p i))), .int (nI (xkc (xlt T t (xrp T t (xsp T t p i) 0)))), .int (nI ((xlt T t (xrp T t (xsp T t p i) 1)) - 48)), .int (nI ((xlt T t (xrp T t (xsp T t p i) 2)) - 48)), .int (nI ((xlt T t (xrp T t (xsp T t p i) 3)) - 48)), .int (nI ((xlt T t (xrp T t (xsp T t p i) 4)) - 48))], [.int ((nI (4 * i)) + 2), .ref 66])) (h1 := (xS b, xm_up (xm_up (xm_up J 60 5 (nI (xrp T t (xsp T t p i) 5))) 66 (nI (4 * i + 0)).toNatClampNeg (nI (xkc (xlt T t (xrp T t (xsp T t p i) 0))))) 66 (nI (4 * i + 1)).toNatClampNeg (nI (xzd T t c p i 1)), L, xP b)) rfl trivial ?_
    refine xw_cong (l' := [.ref 60, .int (nI R), .int (nI c), .int (nI i), .int (nI (xlt T t (xsp T t p i))), .int (nI (xkc (xlt T t (xrp T t (xsp T t p i) 0)))), .int (nI ((xlt T t (xrp T t (xsp T t p i) 1)) - 48)), .int (nI ((xlt T t (xrp T t (xsp T t p i) 2)) - 48)), .int (nI ((xlt T t (xrp T t (xsp T t p i) 3)) - 48)), .int (nI ((xlt T t (xrp T t (xsp T t p i) 4)) - 48))]) (st' := [.int (nI (4 * i + 2)), .ref 66]) (h' := (xS b, xm_up (xm_up (xm_up J 60 5 (nI (xrp T t (xsp T t p i) 5))) 66 (nI (4 * i + 0)).toNatClampNeg (nI (xkc (xlt T t (xrp T t (xsp T t p i) 0))))) 66 (nI (4 * i + 1)).toNatClampNeg (nI (xzd T t c p i 1)), L, xP b)) rfl (show ([.int ((nI (4 * i)) + 2), .ref 66] : List Value) = [.int (nI (4 * i + 2)), .ref 66] from ?_) rfl ?_
    · rw [xl_2, nI_add]
    refine xw_go xb_139 7 (f1 := (219, [.ref 60, .int (nI R), .int (nI c), .int (nI i), .int (nI (xlt T t (xsp T t p i))), .int (nI (xkc (xlt T t (xrp T t (xsp T t p i) 0)))), .int (nI ((xlt T t (xrp T t (xsp T t p i) 1)) - 48)), .int (nI ((xlt T t (xrp T t (xsp T t p i) 2)) - 48)), .int (nI ((xlt T t (xrp T t (xsp T t p i) 3)) - 48)), .int (nI ((xlt T t (xrp T t (xsp T t p i) 4)) - 48))], [.int (4 * (nI i)), .ref 66])) (h1 := (xS b, xm_up (xm_up (xm_up (xm_up J 60 5 (nI (xrp T t (xsp T t p i) 5))) 66 (nI (4 * i + 0)).toNatClampNeg (nI (xkc (xlt T t (xrp T t (xsp T t p i) 0))))) 66 (nI (4 * i + 1)).toNatClampNeg (nI (xzd T t c p i 1))) 66 (nI (4 * i + 2)).toNatClampNeg (nI ((xlt T t (xrp T t (xsp T t p i) 3)) - 48)), L, xP b)) rfl ⟨(xn_ar (n := 4 * i + 2) (N := 20) rfl (by omega) (by decide)), rfl, trivial⟩ ?_
    refine xw_cong (l' := [.ref 60, .int (nI R), .int (nI c), .int (nI i), .int (nI (xlt T t (xsp T t p i))), .int (nI (xkc (xlt T t (xrp T t (xsp T t p i) 0)))), .int (nI ((xlt T t (xrp T t (xsp T t p i) 1)) - 48)), .int (nI ((xlt T t (xrp T t (xsp T t p i) 2)) - 48)), .int (nI ((xlt T t (xrp T t (xsp T t p i) 3)) - 48)), .int (nI ((xlt T t (xrp T t (xsp T t p i) 4)) - 48))]) (st' := [.int (nI (4 * i)), .ref 66]) (h' := (xS b, xm_up (xm_up (xm_up (xm_up J 60 5 (nI (xrp T t (xsp T t p i) 5))) 66 (nI (4 * i + 0)).toNatClampNeg (nI (xkc (xlt T t (xrp T t (xsp T t p i) 0))))) 66 (nI (4 * i + 1)).toNatClampNeg (nI (xzd T t c p i 1))) 66 (nI (4 * i + 2)).toNatClampNeg (nI ((xlt T t (xrp T t (xsp T t p i) 3)) - 48)), L, xP b)) rfl (show ([.int (4 * (nI i)), .ref 66] : List Value) = [.int (nI (4 * i)), .ref 66] from ?_) rfl ?_
    · rw [xl_4, pk_mul]
    refine xw_go xb_139 2 (f1 := (221, [.ref 60, .int (nI R), .int (nI c), .int (nI i), .int (nI (xlt T t (xsp T t p i))), .int (nI (xkc (xlt T t (xrp T t (xsp T t p i) 0)))), .int (nI ((xlt T t (xrp T t (xsp T t p i) 1)) - 48)), .int (nI ((xlt T t (xrp T t (xsp T t p i) 2)) - 48)), .int (nI ((xlt T t (xrp T t (xsp T t p i) 3)) - 48)), .int (nI ((xlt T t (xrp T t (xsp T t p i) 4)) - 48))], [.int ((nI (4 * i)) + 3), .ref 66])) (h1 := (xS b, xm_up (xm_up (xm_up (xm_up J 60 5 (nI (xrp T t (xsp T t p i) 5))) 66 (nI (4 * i + 0)).toNatClampNeg (nI (xkc (xlt T t (xrp T t (xsp T t p i) 0))))) 66 (nI (4 * i + 1)).toNatClampNeg (nI (xzd T t c p i 1))) 66 (nI (4 * i + 2)).toNatClampNeg (nI ((xlt T t (xrp T t (xsp T t p i) 3)) - 48)), L, xP b)) rfl trivial ?_
    refine xw_cong (l' := [.ref 60, .int (nI R), .int (nI c), .int (nI i), .int (nI (xlt T t (xsp T t p i))), .int (nI (xkc (xlt T t (xrp T t (xsp T t p i) 0)))), .int (nI ((xlt T t (xrp T t (xsp T t p i) 1)) - 48)), .int (nI ((xlt T t (xrp T t (xsp T t p i) 2)) - 48)), .int (nI ((xlt T t (xrp T t (xsp T t p i) 3)) - 48)), .int (nI ((xlt T t (xrp T t (xsp T t p i) 4)) - 48))]) (st' := [.int (nI (4 * i + 3)), .ref 66]) (h' := (xS b, xm_up (xm_up (xm_up (xm_up J 60 5 (nI (xrp T t (xsp T t p i) 5))) 66 (nI (4 * i + 0)).toNatClampNeg (nI (xkc (xlt T t (xrp T t (xsp T t p i) 0))))) 66 (nI (4 * i + 1)).toNatClampNeg (nI (xzd T t c p i 1))) 66 (nI (4 * i + 2)).toNatClampNeg (nI ((xlt T t (xrp T t (xsp T t p i) 3)) - 48)), L, xP b)) rfl (show ([.int ((nI (4 * i)) + 3), .ref 66] : List Value) = [.int (nI (4 * i + 3)), .ref 66] from ?_) rfl ?_
    · rw [xl_3, nI_add]
    refine xw_go xb_139 2 (f1 := (224, [.ref 60, .int (nI R), .int (nI c), .int (nI i), .int (nI (xlt T t (xsp T t p i))), .int (nI (xkc (xlt T t (xrp T t (xsp T t p i) 0)))), .int (nI ((xlt T t (xrp T t (xsp T t p i) 1)) - 48)), .int (nI ((xlt T t (xrp T t (xsp T t p i) 2)) - 48)), .int (nI ((xlt T t (xrp T t (xsp T t p i) 3)) - 48)), .int (nI ((xlt T t (xrp T t (xsp T t p i) 4)) - 48))], [])) (h1 := (xS b, xm_up (xm_up (xm_up (xm_up (xm_up J 60 5 (nI (xrp T t (xsp T t p i) 5))) 66 (nI (4 * i + 0)).toNatClampNeg (nI (xkc (xlt T t (xrp T t (xsp T t p i) 0))))) 66 (nI (4 * i + 1)).toNatClampNeg (nI (xzd T t c p i 1))) 66 (nI (4 * i + 2)).toNatClampNeg (nI ((xlt T t (xrp T t (xsp T t p i) 3)) - 48))) 66 (nI (4 * i + 3)).toNatClampNeg (nI ((xlt T t (xrp T t (xsp T t p i) 4)) - 48)), L, xP b)) rfl ⟨(xn_ar (n := 4 * i + 3) (N := 20) rfl (by omega) (by decide)), trivial⟩ ?_
    refine xw_at (f' := (224, [.ref 60, .int (nI R), .int (nI c), .int (nI i), .int (nI (xlt T t (xsp T t p i))), .int (nI (xkc (xlt T t (xrp T t (xsp T t p i) 0)))), .int (nI ((xlt T t (xrp T t (xsp T t p i) 1)) - 48)), .int (nI ((xlt T t (xrp T t (xsp T t p i) 2)) - 48)), .int (nI ((xlt T t (xrp T t (xsp T t p i) 3)) - 48)), .int (nI ((xlt T t (xrp T t (xsp T t p i) 4)) - 48))], [])) (h' := (xS b, xm_up (xm_up (xm_up (xm_up (xm_up J 60 5 (nI (xrp T t (xsp T t p i) 5))) 66 (4 * i + 0) (nI (xzd T t c p i 0))) 66 (4 * i + 1) (nI (xzd T t c p i 1))) 66 (4 * i + 2) (nI (xzd T t c p i 2))) 66 (4 * i + 3) (nI (xzd T t c p i 3)), L, xP b)) rfl (show (xS b, xm_up (xm_up (xm_up (xm_up (xm_up J 60 5 (nI (xrp T t (xsp T t p i) 5))) 66 (nI (4 * i + 0)).toNatClampNeg (nI (xkc (xlt T t (xrp T t (xsp T t p i) 0))))) 66 (nI (4 * i + 1)).toNatClampNeg (nI (xzd T t c p i 1))) 66 (nI (4 * i + 2)).toNatClampNeg (nI ((xlt T t (xrp T t (xsp T t p i) 3)) - 48))) 66 (nI (4 * i + 3)).toNatClampNeg (nI ((xlt T t (xrp T t (xsp T t p i) 4)) - 48)), L, xP b) = (xS b, xm_up (xm_up (xm_up (xm_up (xm_up J 60 5 (nI (xrp T t (xsp T t p i) 5))) 66 (4 * i + 0) (nI (xzd T t c p i 0))) 66 (4 * i + 1) (nI (xzd T t c p i 1))) 66 (4 * i + 2) (nI (xzd T t c p i 2))) 66 (4 * i + 3) (nI (xzd T t c p i 3)), L, xP b) from ?_) ?_
    · rw [xn_cl (by omega), xn_cl (by omega), xn_cl (by omega), xn_cl (by omega)]
      rfl
    refine xw_go xb_139 1 (f1 := (227, [.ref 60, .int (nI R), .int (nI c), .int ((nI i) + 1), .int (nI (xlt T t (xsp T t p i))), .int (nI (xkc (xlt T t (xrp T t (xsp T t p i) 0)))), .int (nI ((xlt T t (xrp T t (xsp T t p i) 1)) - 48)), .int (nI ((xlt T t (xrp T t (xsp T t p i) 2)) - 48)), .int (nI ((xlt T t (xrp T t (xsp T t p i) 3)) - 48)), .int (nI ((xlt T t (xrp T t (xsp T t p i) 4)) - 48))], [])) (h1 := (xS b, xm_up (xm_up (xm_up (xm_up (xm_up J 60 5 (nI (xrp T t (xsp T t p i) 5))) 66 (4 * i + 0) (nI (xzd T t c p i 0))) 66 (4 * i + 1) (nI (xzd T t c p i 1))) 66 (4 * i + 2) (nI (xzd T t c p i 2))) 66 (4 * i + 3) (nI (xzd T t c p i 3)), L, xP b)) rfl trivial ?_
    refine xw_cong (l' := [.ref 60, .int (nI R), .int (nI c), .int (nI (i + 1)), .int (nI (xlt T t (xsp T t p i))), .int (nI (xkc (xlt T t (xrp T t (xsp T t p i) 0)))), .int (nI ((xlt T t (xrp T t (xsp T t p i) 1)) - 48)), .int (nI ((xlt T t (xrp T t (xsp T t p i) 2)) - 48)), .int (nI ((xlt T t (xrp T t (xsp T t p i) 3)) - 48)), .int (nI ((xlt T t (xrp T t (xsp T t p i) 4)) - 48))]) (st' := []) (h' := (xS b, xm_up (xm_up (xm_up (xm_up (xm_up J 60 5 (nI (xrp T t (xsp T t p i) 5))) 66 (4 * i + 0) (nI (xzd T t c p i 0))) 66 (4 * i + 1) (nI (xzd T t c p i 1))) 66 (4 * i + 2) (nI (xzd T t c p i 2))) 66 (4 * i + 3) (nI (xzd T t c p i 3)), L, xP b)) (show ([.ref 60, .int (nI R), .int (nI c), .int ((nI i) + 1), .int (nI (xlt T t (xsp T t p i))), .int (nI (xkc (xlt T t (xrp T t (xsp T t p i) 0)))), .int (nI ((xlt T t (xrp T t (xsp T t p i) 1)) - 48)), .int (nI ((xlt T t (xrp T t (xsp T t p i) 2)) - 48)), .int (nI ((xlt T t (xrp T t (xsp T t p i) 3)) - 48)), .int (nI ((xlt T t (xrp T t (xsp T t p i) 4)) - 48))] : List Value) = [.ref 60, .int (nI R), .int (nI c), .int (nI (i + 1)), .int (nI (xlt T t (xsp T t p i))), .int (nI (xkc (xlt T t (xrp T t (xsp T t p i) 0)))), .int (nI ((xlt T t (xrp T t (xsp T t p i) 1)) - 48)), .int (nI ((xlt T t (xrp T t (xsp T t p i) 2)) - 48)), .int (nI ((xlt T t (xrp T t (xsp T t p i) 3)) - 48)), .int (nI ((xlt T t (xrp T t (xsp T t p i) 4)) - 48))] from ?_) rfl rfl ?_
    · rw [nI_1]
    refine xw_go xb_139 1 (f1 := (2, [.ref 60, .int (nI R), .int (nI c), .int (nI (i + 1)), .int (nI (xlt T t (xsp T t p i))), .int (nI (xkc (xlt T t (xrp T t (xsp T t p i) 0)))), .int (nI ((xlt T t (xrp T t (xsp T t p i) 1)) - 48)), .int (nI ((xlt T t (xrp T t (xsp T t p i) 2)) - 48)), .int (nI ((xlt T t (xrp T t (xsp T t p i) 3)) - 48)), .int (nI ((xlt T t (xrp T t (xsp T t p i) 4)) - 48))], [])) (h1 := (xS b, xm_up (xm_up (xm_up (xm_up (xm_up J 60 5 (nI (xrp T t (xsp T t p i) 5))) 66 (4 * i + 0) (nI (xzd T t c p i 0))) 66 (4 * i + 1) (nI (xzd T t c p i 1))) 66 (4 * i + 2) (nI (xzd T t c p i 2))) 66 (4 * i + 3) (nI (xzd T t c p i 3)), L, xP b)) rfl trivial ?_
    refine xw_fg (l0 := [.ref 60, .int (nI R), .int (nI c), .int (nI (i + 1)), .float 0, .float 0, .float 0, .float 0, .float 0, .float 0]) ⟨Or.inr rfl, Or.inr rfl, Or.inr rfl, Or.inr rfl, Or.inl rfl, Or.inl rfl, Or.inl rfl, Or.inl rfl, Or.inl rfl, Or.inl rfl, trivial⟩ ?_
    refine k _ (fun q h1 h2 => ?_) (fun j h1 => ?_) ?_ (fun f hf => ?_) (fun j hj => ?_)
    · rw [xm_up_o h2, xm_up_o h2, xm_up_o h2, xm_up_o h2, xm_up_o h1]
    · rw [xm_up_o (by decide), xm_up_o (by decide), xm_up_o (by decide), xm_up_o (by decide), xm_up_ne (Or.inr h1)]
    · rw [xm_up_o (by decide), xm_up_o (by decide), xm_up_o (by decide), xm_up_o (by decide), xm_up_at]
    · rcases (show f = 0 ∨ f = 1 ∨ f = 2 ∨ f = 3 by omega) with rfl | rfl | rfl | rfl
      · rw [xm_up_ne (Or.inr (by omega)), xm_up_ne (Or.inr (by omega)), xm_up_ne (Or.inr (by omega)), xm_up_at]
      · rw [xm_up_ne (Or.inr (by omega)), xm_up_ne (Or.inr (by omega)), xm_up_at]
      · rw [xm_up_ne (Or.inr (by omega)), xm_up_at]
      · rw [xm_up_at]
    · rw [xm_up_ne (Or.inr (by omega)), xm_up_ne (Or.inr (by omega)), xm_up_ne (Or.inr (by omega)), xm_up_ne (Or.inr (by omega)), xm_up_o (by decide)]
theorem m_spr0 {d : Nat} {b : Bool} {J : Nat → Nat → Int32} {L : Nat → Nat → Int64} {Q : Option Value → xm_H → Prop} {T : Nat → Nat} {t : Nat} (hR : xMR T t J) {R c p i : Nat} (h6 : J 60 6 = 0) (h5 : J 60 5 = nI (xsp T t p i)) (hs : xsp T t p i ≤ t) (bR : 2 ≤ R ∧ R ≤ 8) (bc : 2 ≤ c ∧ c ≤ 8) (hi : i < 5) (hm : xsm T t R c p i = 0) (k : ∀ K : Nat → Nat → Int32, (∀ q, q ≠ 60 → q ≠ 66 → K q = J q) → (∀ j, j ≠ 5 → j ≠ 6 → K 60 j = J 60 j) → K 60 5 = nI (xsk T t (xrp T t (xsp T t p i) 0)) → K 60 6 = 1 → xm_W (d + 2) 139 (230, [.ref 60, .int (nI R), .int (nI c), .int (nI (i + 1)), .float 0, .float 0, .float 0, .float 0, .float 0, .float 0], []) (xS b, K, L, xP b) Q) : xm_W (d + 2) 139 (40, [.ref 60, .int (nI R), .int (nI c), .int (nI i), .float 0, .float 0, .float 0, .float 0, .float 0, .float 0], []) (xS b, J, L, xP b) Q := by
  obtain ⟨f0, f1, f2, f3, f4⟩ := xr5_d (T := T) (t := t) (R := R) (c := c) (p := p) (i := i) (m := 0) (by omega) (by decide)
  have rl : ∀ k, k ≤ 0 → xrp T t (xsp T t p i) k ≤ t := xr5_le (R := R) (c := c) hs (fun j hj => xld_t 5 j (by unfold xsm at hm; omega))
  have fn := xld_f (f := xf5 T t R c (xsp T t p i)) 5 (by unfold xsm at hm; omega)
  rw [show xld (xf5 T t R c (xsp T t p i)) 5 = 0 from hm] at fn
  replace f0 : ¬ (xkc (xlt T t (xrp T t (xsp T t p i) 0)) < 5) := of_decide_eq_false (show decide (xkc (xlt T t (xrp T t (xsp T t p i) 0)) < 5) = false from fn)
  refine xw_go xb_139 2 (f1 := (44, [.ref 60, .int (nI R), .int (nI c), .int (nI i), .float 0, .float 0, .float 0, .float 0, .float 0, .float 0], [.int (J 60 6)])) (h1 := (xS b, J, L, xP b)) rfl ⟨rfl, trivial⟩ ?_
  refine xw_cong (l' := [.ref 60, .int (nI R), .int (nI c), .int (nI i), .float 0, .float 0, .float 0, .float 0, .float 0, .float 0]) (st' := [.int 0]) (h' := (xS b, J, L, xP b)) rfl (show ([.int (J 60 6)] : List Value) = [.int 0] from ?_) rfl ?_
  · rw [h6]
  refine xw_go xb_139 2 (f1 := (52, [.ref 60, .int (nI R), .int (nI c), .int (nI i), .float 0, .float 0, .float 0, .float 0, .float 0, .float 0], [.ref 60])) (h1 := (xS b, J, L, xP b)) rfl trivial ?_
  refine xw_call xb_139 rfl rfl rfl rfl rfl (Or.inr ⟨_, _, rfl, rfl⟩) (m_here (I := J) (a := (xsp T t p i)) hR h5 hs) ?_
  rintro _ _ ⟨rfl, rfl⟩
  refine xw_at (f' := (55, [.ref 60, .int (nI R), .int (nI c), .int (nI i), .float 0, .float 0, .float 0, .float 0, .float 0, .float 0], [.int (nI (xlt T t (xsp T t p i)))])) (h' := (xS b, xm_up J 60 5 (nI (xsk T t (xsp T t p i))), L, xP b)) rfl rfl ?_
  refine xw_go xb_139 1 (f1 := (57, [.ref 60, .int (nI R), .int (nI c), .int (nI i), .int (nI (xlt T t (xsp T t p i))), .float 0, .float 0, .float 0, .float 0, .float 0], [])) (h1 := (xS b, xm_up J 60 5 (nI (xsk T t (xsp T t p i))), L, xP b)) rfl trivial ?_
  refine m_kind (l := xlt T t (xsp T t p i)) (xlt_le hR.2.1) ?_
  refine xw_cong (l' := [.ref 60, .int (nI R), .int (nI c), .int (nI i), .int (nI (xlt T t (xsp T t p i))), .float 0, .float 0, .float 0, .float 0, .float 0]) (st' := [.int (-1)]) (h' := (xS b, xm_up J 60 5 (nI (xsk T t (xsp T t p i))), L, xP b)) rfl (show ([.int (xkv (xlt T t (xsp T t p i)))] : List Value) = [.int (-1)] from ?_) rfl ?_
  · exact congrArg (fun q => [Value.int q]) (xkv_n f0)
  refine xw_go xb_139 5 (f1 := (126, [.ref 60, .int (nI R), .int (nI c), .int (nI i), .int (nI (xlt T t (xsp T t p i))), .int (-1), .float 0, .float 0, .float 0, .float 0], [.int 0, .ref 60])) (h1 := (xS b, xm_up J 60 5 (nI (xsk T t (xsp T t p i))), L, xP b)) rfl trivial ?_
  refine xw_call xb_139 rfl rfl rfl rfl rfl (Or.inr ⟨_, _, rfl, rfl⟩) (m_must0 (I := (xm_up J 60 5 (nI (xsk T t (xsp T t p i))))) (a := xsk T t (xrp T t (xsp T t p i) 0)) (by rw [xm_up_ne (Or.inr (by decide))]; exact h6) (xm_up_at _ _ _ _) rfl) ?_
  rintro _ _ ⟨rfl, rfl⟩
  refine xw_at (f' := (129, [.ref 60, .int (nI R), .int (nI c), .int (nI i), .int (nI (xlt T t (xsp T t p i))), .int (-1), .float 0, .float 0, .float 0, .float 0], [])) (h' := (xS b, xm_up (xm_up J 60 5 (nI (xsk T t (xsp T t p i)))) 60 6 1, L, xP b)) rfl rfl ?_
  refine xw_go xb_139 5 (f1 := (134, [.ref 60, .int (nI R), .int (nI c), .int (nI i), .int (nI (xlt T t (xsp T t p i))), .int (-1), .float 0, .float 0, .float 0, .float 0], [.int ((nI R) - 1), .int 0, .ref 60])) (h1 := (xS b, xm_up (xm_up J 60 5 (nI (xsk T t (xsp T t p i)))) 60 6 1, L, xP b)) rfl trivial ?_
  refine xw_cong (l' := [.ref 60, .int (nI R), .int (nI c), .int (nI i), .int (nI (xlt T t (xsp T t p i))), .int (-1), .float 0, .float 0, .float 0, .float 0]) (st' := [.int (nI (R - 1)), .int 0, .ref 60]) (h' := (xS b, xm_up (xm_up J 60 5 (nI (xsk T t (xsp T t p i)))) 60 6 1, L, xP b)) rfl (show ([.int ((nI R) - 1), .int 0, .ref 60] : List Value) = [.int (nI (R - 1)), .int 0, .ref 60] from ?_) rfl ?_
  · rw [xl_1, xn_sub (by omega)]
  refine xw_call xb_139 rfl rfl rfl rfl rfl (Or.inr ⟨_, _, rfl, rfl⟩) (m_digitF (I := (xm_up (xm_up J 60 5 (nI (xsk T t (xsp T t p i)))) 60 6 1)) (a := xsk T t (xrp T t (xsp T t p i) 0)) (xm_up_at _ _ _ _) (by rw [xm_up_ne (Or.inr (by decide)), xm_up_at] <;> rfl)) ?_
  rintro _ _ ⟨rfl, rfl⟩
  refine xw_at (f' := (137, [.ref 60, .int (nI R), .int (nI c), .int (nI i), .int (nI (xlt T t (xsp T t p i))), .int (-1), .float 0, .float 0, .float 0, .float 0], [.int (-1)])) (h' := (xS b, xm_up (xm_up J 60 5 (nI (xsk T t (xsp T t p i)))) 60 6 1, L, xP b)) rfl rfl ?_
  refine xw_go xb_139 6 (f1 := (144, [.ref 60, .int (nI R), .int (nI c), .int (nI i), .int (nI (xlt T t (xsp T t p i))), .int (-1), .int (-1), .float 0, .float 0, .float 0], [.int ((nI c) - 1), .int 0, .ref 60])) (h1 := (xS b, xm_up (xm_up J 60 5 (nI (xsk T t (xsp T t p i)))) 60 6 1, L, xP b)) rfl trivial ?_
  refine xw_cong (l' := [.ref 60, .int (nI R), .int (nI c), .int (nI i), .int (nI (xlt T t (xsp T t p i))), .int (-1), .int (-1), .float 0, .float 0, .float 0]) (st' := [.int (nI (c - 1)), .int 0, .ref 60]) (h' := (xS b, xm_up (xm_up J 60 5 (nI (xsk T t (xsp T t p i)))) 60 6 1, L, xP b)) rfl (show ([.int ((nI c) - 1), .int 0, .ref 60] : List Value) = [.int (nI (c - 1)), .int 0, .ref 60] from ?_) rfl ?_
  · rw [xl_1, xn_sub (by omega)]
  refine xw_call xb_139 rfl rfl rfl rfl rfl (Or.inr ⟨_, _, rfl, rfl⟩) (m_digitF (I := (xm_up (xm_up J 60 5 (nI (xsk T t (xsp T t p i)))) 60 6 1)) (a := xsk T t (xrp T t (xsp T t p i) 0)) (xm_up_at _ _ _ _) (by rw [xm_up_ne (Or.inr (by decide)), xm_up_at] <;> rfl)) ?_
  rintro _ _ ⟨rfl, rfl⟩
  refine xw_at (f' := (147, [.ref 60, .int (nI R), .int (nI c), .int (nI i), .int (nI (xlt T t (xsp T t p i))), .int (-1), .int (-1), .float 0, .float 0, .float 0], [.int (-1)])) (h' := (xS b, xm_up (xm_up J 60 5 (nI (xsk T t (xsp T t p i)))) 60 6 1, L, xP b)) rfl rfl ?_
  refine xw_go xb_139 4 (f1 := (152, [.ref 60, .int (nI R), .int (nI c), .int (nI i), .int (nI (xlt T t (xsp T t p i))), .int (-1), .int (-1), .int (-1), .float 0, .float 0], [.int 4, .int 0, .ref 60])) (h1 := (xS b, xm_up (xm_up J 60 5 (nI (xsk T t (xsp T t p i)))) 60 6 1, L, xP b)) rfl trivial ?_
  refine xw_call xb_139 rfl rfl rfl rfl rfl (Or.inr ⟨_, _, rfl, rfl⟩) (m_digitF (I := (xm_up (xm_up J 60 5 (nI (xsk T t (xsp T t p i)))) 60 6 1)) (a := xsk T t (xrp T t (xsp T t p i) 0)) (xm_up_at _ _ _ _) (by rw [xm_up_ne (Or.inr (by decide)), xm_up_at] <;> rfl)) ?_
  rintro _ _ ⟨rfl, rfl⟩
  refine xw_at (f' := (155, [.ref 60, .int (nI R), .int (nI c), .int (nI i), .int (nI (xlt T t (xsp T t p i))), .int (-1), .int (-1), .int (-1), .float 0, .float 0], [.int (-1)])) (h' := (xS b, xm_up (xm_up J 60 5 (nI (xsk T t (xsp T t p i)))) 60 6 1, L, xP b)) rfl rfl ?_
  refine xw_go xb_139 4 (f1 := (161, [.ref 60, .int (nI R), .int (nI c), .int (nI i), .int (nI (xlt T t (xsp T t p i))), .int (-1), .int (-1), .int (-1), .int (-1), .float 0], [.int 9, .int 1, .ref 60])) (h1 := (xS b, xm_up (xm_up J 60 5 (nI (xsk T t (xsp T t p i)))) 60 6 1, L, xP b)) rfl trivial ?_
  refine xw_call xb_139 rfl rfl rfl rfl rfl (Or.inr ⟨_, _, rfl, rfl⟩) (m_digitF (I := (xm_up (xm_up J 60 5 (nI (xsk T t (xsp T t p i)))) 60 6 1)) (a := xsk T t (xrp T t (xsp T t p i) 0)) (xm_up_at _ _ _ _) (by rw [xm_up_ne (Or.inr (by decide)), xm_up_at] <;> rfl)) ?_
  rintro _ _ ⟨rfl, rfl⟩
  refine xw_at (f' := (164, [.ref 60, .int (nI R), .int (nI c), .int (nI i), .int (nI (xlt T t (xsp T t p i))), .int (-1), .int (-1), .int (-1), .int (-1), .float 0], [.int (-1)])) (h' := (xS b, xm_up (xm_up J 60 5 (nI (xsk T t (xsp T t p i)))) 60 6 1, L, xP b)) rfl rfl ?_
  refine xw_go xb_139 3 (f1 := (170, [.ref 60, .int (nI R), .int (nI c), .int (nI i), .int (nI (xlt T t (xsp T t p i))), .int (-1), .int (-1), .int (-1), .int (-1), .int (-1)], [.int ((xm_up (xm_up J 60 5 (nI (xsk T t (xsp T t p i)))) 60 6 1) 60 6)])) (h1 := (xS b, xm_up (xm_up J 60 5 (nI (xsk T t (xsp T t p i)))) 60 6 1, L, xP b)) rfl ⟨rfl, trivial⟩ ?_
  refine xw_cong (l' := [.ref 60, .int (nI R), .int (nI c), .int (nI i), .int (nI (xlt T t (xsp T t p i))), .int (-1), .int (-1), .int (-1), .int (-1), .int (-1)]) (st' := [.int 1]) (h' := (xS b, xm_up (xm_up J 60 5 (nI (xsk T t (xsp T t p i)))) 60 6 1, L, xP b)) rfl (show ([.int ((xm_up (xm_up J 60 5 (nI (xsk T t (xsp T t p i)))) 60 6 1) 60 6)] : List Value) = [.int 1] from ?_) rfl ?_
  · rw [xm_up_at]
  refine xw_go xb_139 2 (f1 := (227, [.ref 60, .int (nI R), .int (nI c), .int ((nI i) + 1), .int (nI (xlt T t (xsp T t p i))), .int (-1), .int (-1), .int (-1), .int (-1), .int (-1)], [])) (h1 := (xS b, xm_up (xm_up J 60 5 (nI (xsk T t (xsp T t p i)))) 60 6 1, L, xP b)) rfl trivial ?_
  refine xw_cong (l' := [.ref 60, .int (nI R), .int (nI c), .int (nI (i + 1)), .int (nI (xlt T t (xsp T t p i))), .int (-1), .int (-1), .int (-1), .int (-1), .int (-1)]) (st' := []) (h' := (xS b, xm_up (xm_up J 60 5 (nI (xsk T t (xsp T t p i)))) 60 6 1, L, xP b)) (show ([.ref 60, .int (nI R), .int (nI c), .int ((nI i) + 1), .int (nI (xlt T t (xsp T t p i))), .int (-1), .int (-1), .int (-1), .int (-1), .int (-1)] : List Value) = [.ref 60, .int (nI R), .int (nI c), .int (nI (i + 1)), .int (nI (xlt T t (xsp T t p i))), .int (-1), .int (-1), .int (-1), .int (-1), .int (-1)] from ?_) rfl rfl ?_
  · rw [nI_1]
  refine xw_go xb_139 1 (f1 := (2, [.ref 60, .int (nI R), .int (nI c), .int (nI (i + 1)), .int (nI (xlt T t (xsp T t p i))), .int (-1), .int (-1), .int (-1), .int (-1), .int (-1)], [])) (h1 := (xS b, xm_up (xm_up J 60 5 (nI (xsk T t (xsp T t p i)))) 60 6 1, L, xP b)) rfl trivial ?_
  refine xw_fg (l0 := [.ref 60, .int (nI R), .int (nI c), .int (nI (i + 1)), .float 0, .float 0, .float 0, .float 0, .float 0, .float 0]) ⟨Or.inr rfl, Or.inr rfl, Or.inr rfl, Or.inr rfl, Or.inl rfl, Or.inl rfl, Or.inl rfl, Or.inl rfl, Or.inl rfl, Or.inl rfl, trivial⟩ ?_
  refine xw_go xb_139 2 (f1 := (6, [.ref 60, .int (nI R), .int (nI c), .int (nI (i + 1)), .float 0, .float 0, .float 0, .float 0, .float 0, .float 0], [.int ((xm_up (xm_up J 60 5 (nI (xsk T t (xsp T t p i)))) 60 6 1) 60 6)])) (h1 := (xS b, xm_up (xm_up J 60 5 (nI (xsk T t (xsp T t p i)))) 60 6 1, L, xP b)) rfl ⟨rfl, trivial⟩ ?_
  refine xw_cong (l' := [.ref 60, .int (nI R), .int (nI c), .int (nI (i + 1)), .float 0, .float 0, .float 0, .float 0, .float 0, .float 0]) (st' := [.int 1]) (h' := (xS b, xm_up (xm_up J 60 5 (nI (xsk T t (xsp T t p i)))) 60 6 1, L, xP b)) rfl (show ([.int ((xm_up (xm_up J 60 5 (nI (xsk T t (xsp T t p i)))) 60 6 1) 60 6)] : List Value) = [.int 1] from ?_) rfl ?_
  · rw [xm_up_at]
  refine xw_go xb_139 1 (f1 := (230, [.ref 60, .int (nI R), .int (nI c), .int (nI (i + 1)), .float 0, .float 0, .float 0, .float 0, .float 0, .float 0], [])) (h1 := (xS b, xm_up (xm_up J 60 5 (nI (xsk T t (xsp T t p i)))) 60 6 1, L, xP b)) rfl trivial ?_
  exact k _ (fun q h1 h2 => by rw [xm_up_o h1, xm_up_o h1]) (fun j h1 h2 => by rw [xm_up_ne (Or.inr h2), xm_up_ne (Or.inr h1)]) (by rw [xm_up_ne (Or.inr (by decide)), xm_up_at] <;> rfl) (xm_up_at _ _ _ _)
theorem m_spr1 {d : Nat} {b : Bool} {J : Nat → Nat → Int32} {L : Nat → Nat → Int64} {Q : Option Value → xm_H → Prop} {T : Nat → Nat} {t : Nat} (hR : xMR T t J) {R c p i : Nat} (h6 : J 60 6 = 0) (h5 : J 60 5 = nI (xsp T t p i)) (hs : xsp T t p i ≤ t) (bR : 2 ≤ R ∧ R ≤ 8) (bc : 2 ≤ c ∧ c ≤ 8) (hi : i < 5) (hm : xsm T t R c p i = 1) (k : ∀ K : Nat → Nat → Int32, (∀ q, q ≠ 60 → q ≠ 66 → K q = J q) → (∀ j, j ≠ 5 → j ≠ 6 → K 60 j = J 60 j) → K 60 5 = nI (xsk T t (xrp T t (xsp T t p i) 1)) → K 60 6 = 1 → xm_W (d + 2) 139 (230, [.ref 60, .int (nI R), .int (nI c), .int (nI (i + 1)), .float 0, .float 0, .float 0, .float 0, .float 0, .float 0], []) (xS b, K, L, xP b) Q) : xm_W (d + 2) 139 (40, [.ref 60, .int (nI R), .int (nI c), .int (nI i), .float 0, .float 0, .float 0, .float 0, .float 0, .float 0], []) (xS b, J, L, xP b) Q := by
  obtain ⟨f0, f1, f2, f3, f4⟩ := xr5_d (T := T) (t := t) (R := R) (c := c) (p := p) (i := i) (m := 1) (by omega) (by decide)
  replace f0 := f0 (by decide)
  have rl : ∀ k, k ≤ 1 → xrp T t (xsp T t p i) k ≤ t := xr5_le (R := R) (c := c) hs (fun j hj => xld_t 5 j (by unfold xsm at hm; omega))
  have fn := xld_f (f := xf5 T t R c (xsp T t p i)) 5 (by unfold xsm at hm; omega)
  rw [show xld (xf5 T t R c (xsp T t p i)) 5 = 1 from hm] at fn
  replace f1 : ¬ (48 ≤ (xlt T t (xrp T t (xsp T t p i) 1)) ∧ (xlt T t (xrp T t (xsp T t p i) 1)) < 48 + R) := of_decide_eq_false (show decide (48 ≤ (xlt T t (xrp T t (xsp T t p i) 1)) ∧ (xlt T t (xrp T t (xsp T t p i) 1)) < 48 + R) = false from fn)
  refine xw_go xb_139 2 (f1 := (44, [.ref 60, .int (nI R), .int (nI c), .int (nI i), .float 0, .float 0, .float 0, .float 0, .float 0, .float 0], [.int (J 60 6)])) (h1 := (xS b, J, L, xP b)) rfl ⟨rfl, trivial⟩ ?_
  refine xw_cong (l' := [.ref 60, .int (nI R), .int (nI c), .int (nI i), .float 0, .float 0, .float 0, .float 0, .float 0, .float 0]) (st' := [.int 0]) (h' := (xS b, J, L, xP b)) rfl (show ([.int (J 60 6)] : List Value) = [.int 0] from ?_) rfl ?_
  · rw [h6]
  refine xw_go xb_139 2 (f1 := (52, [.ref 60, .int (nI R), .int (nI c), .int (nI i), .float 0, .float 0, .float 0, .float 0, .float 0, .float 0], [.ref 60])) (h1 := (xS b, J, L, xP b)) rfl trivial ?_
  refine xw_call xb_139 rfl rfl rfl rfl rfl (Or.inr ⟨_, _, rfl, rfl⟩) (m_here (I := J) (a := (xsp T t p i)) hR h5 hs) ?_
  rintro _ _ ⟨rfl, rfl⟩
  refine xw_at (f' := (55, [.ref 60, .int (nI R), .int (nI c), .int (nI i), .float 0, .float 0, .float 0, .float 0, .float 0, .float 0], [.int (nI (xlt T t (xsp T t p i)))])) (h' := (xS b, xm_up J 60 5 (nI (xsk T t (xsp T t p i))), L, xP b)) rfl rfl ?_
  refine xw_go xb_139 1 (f1 := (57, [.ref 60, .int (nI R), .int (nI c), .int (nI i), .int (nI (xlt T t (xsp T t p i))), .float 0, .float 0, .float 0, .float 0, .float 0], [])) (h1 := (xS b, xm_up J 60 5 (nI (xsk T t (xsp T t p i))), L, xP b)) rfl trivial ?_
  refine m_kind (l := xlt T t (xsp T t p i)) (xlt_le hR.2.1) ?_
  refine xw_cong (l' := [.ref 60, .int (nI R), .int (nI c), .int (nI i), .int (nI (xlt T t (xsp T t p i))), .float 0, .float 0, .float 0, .float 0, .float 0]) (st' := [.int (nI (xkc (xlt T t (xrp T t (xsp T t p i) 0))))]) (h' := (xS b, xm_up J 60 5 (nI (xsk T t (xsp T t p i))), L, xP b)) rfl (show ([.int (xkv (xlt T t (xsp T t p i)))] : List Value) = [.int (nI (xkc (xlt T t (xrp T t (xsp T t p i) 0))))] from ?_) rfl ?_
  · exact congrArg (fun q => [Value.int q]) (xkv_k f0)
  refine xw_go xb_139 4 (f1 := (if (nI (xkc (xlt T t (xrp T t (xsp T t p i) 0)))) < 0 then 125 else 121, [.ref 60, .int (nI R), .int (nI c), .int (nI i), .int (nI (xlt T t (xsp T t p i))), .int (nI (xkc (xlt T t (xrp T t (xsp T t p i) 0)))), .float 0, .float 0, .float 0, .float 0], [.ref 60])) (h1 := (xS b, xm_up J 60 5 (nI (xsk T t (xsp T t p i))), L, xP b)) rfl trivial ?_
  refine xw_if (fun c_118 => ?_) (fun c_118 => ?_)
  · skip
    exfalso
    rw [xl_0, nI_ltI (by omega) (by omega)] at c_118
    omega
  · skip
    refine xw_go xb_139 2 (f1 := (126, [.ref 60, .int (nI R), .int (nI c), .int (nI i), .int (nI (xlt T t (xsp T t p i))), .int (nI (xkc (xlt T t (xrp T t (xsp T t p i) 0)))), .float 0, .float 0, .float 0, .float 0], [.int 1, .ref 60])) (h1 := (xS b, xm_up J 60 5 (nI (xsk T t (xsp T t p i))), L, xP b)) rfl trivial ?_
    refine xw_call xb_139 rfl rfl rfl rfl rfl (Or.inr ⟨_, _, rfl, rfl⟩) (m_must1 (I := (xm_up J 60 5 (nI (xsk T t (xsp T t p i))))) (a := xsk T t (xrp T t (xsp T t p i) 0)) (by rw [xm_up_ne (Or.inr (by decide))]; exact h6) (xm_up_at _ _ _ _) rfl) ?_
    rintro _ _ ⟨rfl, rfl⟩
    refine xw_at (f' := (129, [.ref 60, .int (nI R), .int (nI c), .int (nI i), .int (nI (xlt T t (xsp T t p i))), .int (nI (xkc (xlt T t (xrp T t (xsp T t p i) 0)))), .float 0, .float 0, .float 0, .float 0], [])) (h' := (xS b, xm_up (xm_up J 60 5 (nI (xsk T t (xsp T t p i)))) 60 5 (nI (xsk T t (xrp T t (xsp T t p i) 0) + 1)), L, xP b)) rfl rfl ?_
    refine xw_at (f' := (129, [.ref 60, .int (nI R), .int (nI c), .int (nI i), .int (nI (xlt T t (xsp T t p i))), .int (nI (xkc (xlt T t (xrp T t (xsp T t p i) 0)))), .float 0, .float 0, .float 0, .float 0], [])) (h' := (xS b, xm_up J 60 5 (nI (xrp T t (xsp T t p i) 1)), L, xP b)) rfl (show (xS b, xm_up (xm_up J 60 5 (nI (xsk T t (xsp T t p i)))) 60 5 (nI (xsk T t (xrp T t (xsp T t p i) 0) + 1)), L, xP b) = (xS b, xm_up J 60 5 (nI (xrp T t (xsp T t p i) 1)), L, xP b) from ?_) ?_
    · rw [xup_2]
      rfl
    have r1 := (xMR_fr (J := xm_up J 60 5 (nI (xrp T t (xsp T t p i) 1))) hR (by rw [xm_up_ne (Or.inr (by decide))]) (by rw [xm_up_o (by decide)]))
    refine xw_go xb_139 5 (f1 := (134, [.ref 60, .int (nI R), .int (nI c), .int (nI i), .int (nI (xlt T t (xsp T t p i))), .int (nI (xkc (xlt T t (xrp T t (xsp T t p i) 0)))), .float 0, .float 0, .float 0, .float 0], [.int ((nI R) - 1), .int 0, .ref 60])) (h1 := (xS b, xm_up J 60 5 (nI (xrp T t (xsp T t p i) 1)), L, xP b)) rfl trivial ?_
    refine xw_cong (l' := [.ref 60, .int (nI R), .int (nI c), .int (nI i), .int (nI (xlt T t (xsp T t p i))), .int (nI (xkc (xlt T t (xrp T t (xsp T t p i) 0)))), .float 0, .float 0, .float 0, .float 0]) (st' := [.int (nI (R - 1)), .int 0, .ref 60]) (h' := (xS b, xm_up J 60 5 (nI (xrp T t (xsp T t p i) 1)), L, xP b)) rfl (show ([.int ((nI R) - 1), .int 0, .ref 60] : List Value) = [.int (nI (R - 1)), .int 0, .ref 60] from ?_) rfl ?_
    · rw [xl_1, xn_sub (by omega)]
    refine xw_call xb_139 rfl rfl rfl rfl rfl (Or.inr ⟨_, _, rfl, rfl⟩) (m_digit0 (I := (xm_up J 60 5 (nI (xrp T t (xsp T t p i) 1)))) (a := (xrp T t (xsp T t p i) 1)) (lo := 0) (hi := (R - 1)) r1 (by rw [xm_up_ne (Or.inr (by decide))]; exact h6) (xm_up_at _ _ _ _) (rl 1 (by omega)) (by omega) (by omega) (by omega) rfl rfl) ?_
    rintro _ _ ⟨rfl, rfl⟩
    refine xw_at (f' := (137, [.ref 60, .int (nI R), .int (nI c), .int (nI i), .int (nI (xlt T t (xsp T t p i))), .int (nI (xkc (xlt T t (xrp T t (xsp T t p i) 0)))), .float 0, .float 0, .float 0, .float 0], [.int (nI (xlt T t (xrp T t (xsp T t p i) 1)) - 48)])) (h' := (xS b, xm_up (xm_up (xm_up J 60 5 (nI (xrp T t (xsp T t p i) 1))) 60 5 (nI (xsk T t (xrp T t (xsp T t p i) 1)))) 60 6 1, L, xP b)) rfl rfl ?_
    refine xw_at (f' := (137, [.ref 60, .int (nI R), .int (nI c), .int (nI i), .int (nI (xlt T t (xsp T t p i))), .int (nI (xkc (xlt T t (xrp T t (xsp T t p i) 0)))), .float 0, .float 0, .float 0, .float 0], [.int (nI (xlt T t (xrp T t (xsp T t p i) 1)) - 48)])) (h' := (xS b, xm_up (xm_up J 60 5 (nI (xsk T t (xrp T t (xsp T t p i) 1)))) 60 6 1, L, xP b)) rfl (show (xS b, xm_up (xm_up (xm_up J 60 5 (nI (xrp T t (xsp T t p i) 1))) 60 5 (nI (xsk T t (xrp T t (xsp T t p i) 1)))) 60 6 1, L, xP b) = (xS b, xm_up (xm_up J 60 5 (nI (xsk T t (xrp T t (xsp T t p i) 1)))) 60 6 1, L, xP b) from ?_) ?_
    · rw [xup_2]
    refine xw_go xb_139 6 (f1 := (144, [.ref 60, .int (nI R), .int (nI c), .int (nI i), .int (nI (xlt T t (xsp T t p i))), .int (nI (xkc (xlt T t (xrp T t (xsp T t p i) 0)))), .int (nI (xlt T t (xrp T t (xsp T t p i) 1)) - 48), .float 0, .float 0, .float 0], [.int ((nI c) - 1), .int 0, .ref 60])) (h1 := (xS b, xm_up (xm_up J 60 5 (nI (xsk T t (xrp T t (xsp T t p i) 1)))) 60 6 1, L, xP b)) rfl trivial ?_
    refine xw_cong (l' := [.ref 60, .int (nI R), .int (nI c), .int (nI i), .int (nI (xlt T t (xsp T t p i))), .int (nI (xkc (xlt T t (xrp T t (xsp T t p i) 0)))), .int (nI (xlt T t (xrp T t (xsp T t p i) 1)) - 48), .float 0, .float 0, .float 0]) (st' := [.int (nI (c - 1)), .int 0, .ref 60]) (h' := (xS b, xm_up (xm_up J 60 5 (nI (xsk T t (xrp T t (xsp T t p i) 1)))) 60 6 1, L, xP b)) rfl (show ([.int ((nI c) - 1), .int 0, .ref 60] : List Value) = [.int (nI (c - 1)), .int 0, .ref 60] from ?_) rfl ?_
    · rw [xl_1, xn_sub (by omega)]
    refine xw_call xb_139 rfl rfl rfl rfl rfl (Or.inr ⟨_, _, rfl, rfl⟩) (m_digitF (I := (xm_up (xm_up J 60 5 (nI (xsk T t (xrp T t (xsp T t p i) 1)))) 60 6 1)) (a := xsk T t (xrp T t (xsp T t p i) 1)) (xm_up_at _ _ _ _) (by rw [xm_up_ne (Or.inr (by decide)), xm_up_at] <;> rfl)) ?_
    rintro _ _ ⟨rfl, rfl⟩
    refine xw_at (f' := (147, [.ref 60, .int (nI R), .int (nI c), .int (nI i), .int (nI (xlt T t (xsp T t p i))), .int (nI (xkc (xlt T t (xrp T t (xsp T t p i) 0)))), .int (nI (xlt T t (xrp T t (xsp T t p i) 1)) - 48), .float 0, .float 0, .float 0], [.int (-1)])) (h' := (xS b, xm_up (xm_up J 60 5 (nI (xsk T t (xrp T t (xsp T t p i) 1)))) 60 6 1, L, xP b)) rfl rfl ?_
    refine xw_go xb_139 4 (f1 := (152, [.ref 60, .int (nI R), .int (nI c), .int (nI i), .int (nI (xlt T t (xsp T t p i))), .int (nI (xkc (xlt T t (xrp T t (xsp T t p i) 0)))), .int (nI (xlt T t (xrp T t (xsp T t p i) 1)) - 48), .int (-1), .float 0, .float 0], [.int 4, .int 0, .ref 60])) (h1 := (xS b, xm_up (xm_up J 60 5 (nI (xsk T t (xrp T t (xsp T t p i) 1)))) 60 6 1, L, xP b)) rfl trivial ?_
    refine xw_call xb_139 rfl rfl rfl rfl rfl (Or.inr ⟨_, _, rfl, rfl⟩) (m_digitF (I := (xm_up (xm_up J 60 5 (nI (xsk T t (xrp T t (xsp T t p i) 1)))) 60 6 1)) (a := xsk T t (xrp T t (xsp T t p i) 1)) (xm_up_at _ _ _ _) (by rw [xm_up_ne (Or.inr (by decide)), xm_up_at] <;> rfl)) ?_
    rintro _ _ ⟨rfl, rfl⟩
    refine xw_at (f' := (155, [.ref 60, .int (nI R), .int (nI c), .int (nI i), .int (nI (xlt T t (xsp T t p i))), .int (nI (xkc (xlt T t (xrp T t (xsp T t p i) 0)))), .int (nI (xlt T t (xrp T t (xsp T t p i) 1)) - 48), .int (-1), .float 0, .float 0], [.int (-1)])) (h' := (xS b, xm_up (xm_up J 60 5 (nI (xsk T t (xrp T t (xsp T t p i) 1)))) 60 6 1, L, xP b)) rfl rfl ?_
    refine xw_go xb_139 4 (f1 := (161, [.ref 60, .int (nI R), .int (nI c), .int (nI i), .int (nI (xlt T t (xsp T t p i))), .int (nI (xkc (xlt T t (xrp T t (xsp T t p i) 0)))), .int (nI (xlt T t (xrp T t (xsp T t p i) 1)) - 48), .int (-1), .int (-1), .float 0], [.int 9, .int 1, .ref 60])) (h1 := (xS b, xm_up (xm_up J 60 5 (nI (xsk T t (xrp T t (xsp T t p i) 1)))) 60 6 1, L, xP b)) rfl trivial ?_
    refine xw_call xb_139 rfl rfl rfl rfl rfl (Or.inr ⟨_, _, rfl, rfl⟩) (m_digitF (I := (xm_up (xm_up J 60 5 (nI (xsk T t (xrp T t (xsp T t p i) 1)))) 60 6 1)) (a := xsk T t (xrp T t (xsp T t p i) 1)) (xm_up_at _ _ _ _) (by rw [xm_up_ne (Or.inr (by decide)), xm_up_at] <;> rfl)) ?_
    rintro _ _ ⟨rfl, rfl⟩
    refine xw_at (f' := (164, [.ref 60, .int (nI R), .int (nI c), .int (nI i), .int (nI (xlt T t (xsp T t p i))), .int (nI (xkc (xlt T t (xrp T t (xsp T t p i) 0)))), .int (nI (xlt T t (xrp T t (xsp T t p i) 1)) - 48), .int (-1), .int (-1), .float 0], [.int (-1)])) (h' := (xS b, xm_up (xm_up J 60 5 (nI (xsk T t (xrp T t (xsp T t p i) 1)))) 60 6 1, L, xP b)) rfl rfl ?_
    refine xw_go xb_139 3 (f1 := (170, [.ref 60, .int (nI R), .int (nI c), .int (nI i), .int (nI (xlt T t (xsp T t p i))), .int (nI (xkc (xlt T t (xrp T t (xsp T t p i) 0)))), .int (nI (xlt T t (xrp T t (xsp T t p i) 1)) - 48), .int (-1), .int (-1), .int (-1)], [.int ((xm_up (xm_up J 60 5 (nI (xsk T t (xrp T t (xsp T t p i) 1)))) 60 6 1) 60 6)])) (h1 := (xS b, xm_up (xm_up J 60 5 (nI (xsk T t (xrp T t (xsp T t p i) 1)))) 60 6 1, L, xP b)) rfl ⟨rfl, trivial⟩ ?_
    refine xw_cong (l' := [.ref 60, .int (nI R), .int (nI c), .int (nI i), .int (nI (xlt T t (xsp T t p i))), .int (nI (xkc (xlt T t (xrp T t (xsp T t p i) 0)))), .int (nI (xlt T t (xrp T t (xsp T t p i) 1)) - 48), .int (-1), .int (-1), .int (-1)]) (st' := [.int 1]) (h' := (xS b, xm_up (xm_up J 60 5 (nI (xsk T t (xrp T t (xsp T t p i) 1)))) 60 6 1, L, xP b)) rfl (show ([.int ((xm_up (xm_up J 60 5 (nI (xsk T t (xrp T t (xsp T t p i) 1)))) 60 6 1) 60 6)] : List Value) = [.int 1] from ?_) rfl ?_
    · rw [xm_up_at]
    refine xw_go xb_139 2 (f1 := (227, [.ref 60, .int (nI R), .int (nI c), .int ((nI i) + 1), .int (nI (xlt T t (xsp T t p i))), .int (nI (xkc (xlt T t (xrp T t (xsp T t p i) 0)))), .int (nI (xlt T t (xrp T t (xsp T t p i) 1)) - 48), .int (-1), .int (-1), .int (-1)], [])) (h1 := (xS b, xm_up (xm_up J 60 5 (nI (xsk T t (xrp T t (xsp T t p i) 1)))) 60 6 1, L, xP b)) rfl trivial ?_
    refine xw_cong (l' := [.ref 60, .int (nI R), .int (nI c), .int (nI (i + 1)), .int (nI (xlt T t (xsp T t p i))), .int (nI (xkc (xlt T t (xrp T t (xsp T t p i) 0)))), .int (nI (xlt T t (xrp T t (xsp T t p i) 1)) - 48), .int (-1), .int (-1), .int (-1)]) (st' := []) (h' := (xS b, xm_up (xm_up J 60 5 (nI (xsk T t (xrp T t (xsp T t p i) 1)))) 60 6 1, L, xP b)) (show ([.ref 60, .int (nI R), .int (nI c), .int ((nI i) + 1), .int (nI (xlt T t (xsp T t p i))), .int (nI (xkc (xlt T t (xrp T t (xsp T t p i) 0)))), .int (nI (xlt T t (xrp T t (xsp T t p i) 1)) - 48), .int (-1), .int (-1), .int (-1)] : List Value) = [.ref 60, .int (nI R), .int (nI c), .int (nI (i + 1)), .int (nI (xlt T t (xsp T t p i))), .int (nI (xkc (xlt T t (xrp T t (xsp T t p i) 0)))), .int (nI (xlt T t (xrp T t (xsp T t p i) 1)) - 48), .int (-1), .int (-1), .int (-1)] from ?_) rfl rfl ?_
    · rw [nI_1]
    refine xw_go xb_139 1 (f1 := (2, [.ref 60, .int (nI R), .int (nI c), .int (nI (i + 1)), .int (nI (xlt T t (xsp T t p i))), .int (nI (xkc (xlt T t (xrp T t (xsp T t p i) 0)))), .int (nI (xlt T t (xrp T t (xsp T t p i) 1)) - 48), .int (-1), .int (-1), .int (-1)], [])) (h1 := (xS b, xm_up (xm_up J 60 5 (nI (xsk T t (xrp T t (xsp T t p i) 1)))) 60 6 1, L, xP b)) rfl trivial ?_
    refine xw_fg (l0 := [.ref 60, .int (nI R), .int (nI c), .int (nI (i + 1)), .float 0, .float 0, .float 0, .float 0, .float 0, .float 0]) ⟨Or.inr rfl, Or.inr rfl, Or.inr rfl, Or.inr rfl, Or.inl rfl, Or.inl rfl, Or.inl rfl, Or.inl rfl, Or.inl rfl, Or.inl rfl, trivial⟩ ?_
    refine xw_go xb_139 2 (f1 := (6, [.ref 60, .int (nI R), .int (nI c), .int (nI (i + 1)), .float 0, .float 0, .float 0, .float 0, .float 0, .float 0], [.int ((xm_up (xm_up J 60 5 (nI (xsk T t (xrp T t (xsp T t p i) 1)))) 60 6 1) 60 6)])) (h1 := (xS b, xm_up (xm_up J 60 5 (nI (xsk T t (xrp T t (xsp T t p i) 1)))) 60 6 1, L, xP b)) rfl ⟨rfl, trivial⟩ ?_
    refine xw_cong (l' := [.ref 60, .int (nI R), .int (nI c), .int (nI (i + 1)), .float 0, .float 0, .float 0, .float 0, .float 0, .float 0]) (st' := [.int 1]) (h' := (xS b, xm_up (xm_up J 60 5 (nI (xsk T t (xrp T t (xsp T t p i) 1)))) 60 6 1, L, xP b)) rfl (show ([.int ((xm_up (xm_up J 60 5 (nI (xsk T t (xrp T t (xsp T t p i) 1)))) 60 6 1) 60 6)] : List Value) = [.int 1] from ?_) rfl ?_
    · rw [xm_up_at]
    refine xw_go xb_139 1 (f1 := (230, [.ref 60, .int (nI R), .int (nI c), .int (nI (i + 1)), .float 0, .float 0, .float 0, .float 0, .float 0, .float 0], [])) (h1 := (xS b, xm_up (xm_up J 60 5 (nI (xsk T t (xrp T t (xsp T t p i) 1)))) 60 6 1, L, xP b)) rfl trivial ?_
    exact k _ (fun q h1 h2 => by rw [xm_up_o h1, xm_up_o h1]) (fun j h1 h2 => by rw [xm_up_ne (Or.inr h2), xm_up_ne (Or.inr h1)]) (by rw [xm_up_ne (Or.inr (by decide)), xm_up_at] <;> rfl) (xm_up_at _ _ _ _)
theorem m_spr2 {d : Nat} {b : Bool} {J : Nat → Nat → Int32} {L : Nat → Nat → Int64} {Q : Option Value → xm_H → Prop} {T : Nat → Nat} {t : Nat} (hR : xMR T t J) {R c p i : Nat} (h6 : J 60 6 = 0) (h5 : J 60 5 = nI (xsp T t p i)) (hs : xsp T t p i ≤ t) (bR : 2 ≤ R ∧ R ≤ 8) (bc : 2 ≤ c ∧ c ≤ 8) (hi : i < 5) (hm : xsm T t R c p i = 2) (k : ∀ K : Nat → Nat → Int32, (∀ q, q ≠ 60 → q ≠ 66 → K q = J q) → (∀ j, j ≠ 5 → j ≠ 6 → K 60 j = J 60 j) → K 60 5 = nI (xsk T t (xrp T t (xsp T t p i) 2)) → K 60 6 = 1 → xm_W (d + 2) 139 (230, [.ref 60, .int (nI R), .int (nI c), .int (nI (i + 1)), .float 0, .float 0, .float 0, .float 0, .float 0, .float 0], []) (xS b, K, L, xP b) Q) : xm_W (d + 2) 139 (40, [.ref 60, .int (nI R), .int (nI c), .int (nI i), .float 0, .float 0, .float 0, .float 0, .float 0, .float 0], []) (xS b, J, L, xP b) Q := by
  obtain ⟨f0, f1, f2, f3, f4⟩ := xr5_d (T := T) (t := t) (R := R) (c := c) (p := p) (i := i) (m := 2) (by omega) (by decide)
  replace f0 := f0 (by decide)
  replace f1 := f1 (by decide)
  have rl : ∀ k, k ≤ 2 → xrp T t (xsp T t p i) k ≤ t := xr5_le (R := R) (c := c) hs (fun j hj => xld_t 5 j (by unfold xsm at hm; omega))
  have fn := xld_f (f := xf5 T t R c (xsp T t p i)) 5 (by unfold xsm at hm; omega)
  rw [show xld (xf5 T t R c (xsp T t p i)) 5 = 2 from hm] at fn
  replace f2 : ¬ (48 ≤ (xlt T t (xrp T t (xsp T t p i) 2)) ∧ (xlt T t (xrp T t (xsp T t p i) 2)) < 48 + c) := of_decide_eq_false (show decide (48 ≤ (xlt T t (xrp T t (xsp T t p i) 2)) ∧ (xlt T t (xrp T t (xsp T t p i) 2)) < 48 + c) = false from fn)
  refine xw_go xb_139 2 (f1 := (44, [.ref 60, .int (nI R), .int (nI c), .int (nI i), .float 0, .float 0, .float 0, .float 0, .float 0, .float 0], [.int (J 60 6)])) (h1 := (xS b, J, L, xP b)) rfl ⟨rfl, trivial⟩ ?_
  refine xw_cong (l' := [.ref 60, .int (nI R), .int (nI c), .int (nI i), .float 0, .float 0, .float 0, .float 0, .float 0, .float 0]) (st' := [.int 0]) (h' := (xS b, J, L, xP b)) rfl (show ([.int (J 60 6)] : List Value) = [.int 0] from ?_) rfl ?_
  · rw [h6]
  refine xw_go xb_139 2 (f1 := (52, [.ref 60, .int (nI R), .int (nI c), .int (nI i), .float 0, .float 0, .float 0, .float 0, .float 0, .float 0], [.ref 60])) (h1 := (xS b, J, L, xP b)) rfl trivial ?_
  refine xw_call xb_139 rfl rfl rfl rfl rfl (Or.inr ⟨_, _, rfl, rfl⟩) (m_here (I := J) (a := (xsp T t p i)) hR h5 hs) ?_
  rintro _ _ ⟨rfl, rfl⟩
  refine xw_at (f' := (55, [.ref 60, .int (nI R), .int (nI c), .int (nI i), .float 0, .float 0, .float 0, .float 0, .float 0, .float 0], [.int (nI (xlt T t (xsp T t p i)))])) (h' := (xS b, xm_up J 60 5 (nI (xsk T t (xsp T t p i))), L, xP b)) rfl rfl ?_
  refine xw_go xb_139 1 (f1 := (57, [.ref 60, .int (nI R), .int (nI c), .int (nI i), .int (nI (xlt T t (xsp T t p i))), .float 0, .float 0, .float 0, .float 0, .float 0], [])) (h1 := (xS b, xm_up J 60 5 (nI (xsk T t (xsp T t p i))), L, xP b)) rfl trivial ?_
  refine m_kind (l := xlt T t (xsp T t p i)) (xlt_le hR.2.1) ?_
  refine xw_cong (l' := [.ref 60, .int (nI R), .int (nI c), .int (nI i), .int (nI (xlt T t (xsp T t p i))), .float 0, .float 0, .float 0, .float 0, .float 0]) (st' := [.int (nI (xkc (xlt T t (xrp T t (xsp T t p i) 0))))]) (h' := (xS b, xm_up J 60 5 (nI (xsk T t (xsp T t p i))), L, xP b)) rfl (show ([.int (xkv (xlt T t (xsp T t p i)))] : List Value) = [.int (nI (xkc (xlt T t (xrp T t (xsp T t p i) 0))))] from ?_) rfl ?_
  · exact congrArg (fun q => [Value.int q]) (xkv_k f0)
  refine xw_go xb_139 4 (f1 := (if (nI (xkc (xlt T t (xrp T t (xsp T t p i) 0)))) < 0 then 125 else 121, [.ref 60, .int (nI R), .int (nI c), .int (nI i), .int (nI (xlt T t (xsp T t p i))), .int (nI (xkc (xlt T t (xrp T t (xsp T t p i) 0)))), .float 0, .float 0, .float 0, .float 0], [.ref 60])) (h1 := (xS b, xm_up J 60 5 (nI (xsk T t (xsp T t p i))), L, xP b)) rfl trivial ?_
  refine xw_if (fun c_118 => ?_) (fun c_118 => ?_)
  · skip
    exfalso
    rw [xl_0, nI_ltI (by omega) (by omega)] at c_118
    omega
  · skip
    refine xw_go xb_139 2 (f1 := (126, [.ref 60, .int (nI R), .int (nI c), .int (nI i), .int (nI (xlt T t (xsp T t p i))), .int (nI (xkc (xlt T t (xrp T t (xsp T t p i) 0)))), .float 0, .float 0, .float 0, .float 0], [.int 1, .ref 60])) (h1 := (xS b, xm_up J 60 5 (nI (xsk T t (xsp T t p i))), L, xP b)) rfl trivial ?_
    refine xw_call xb_139 rfl rfl rfl rfl rfl (Or.inr ⟨_, _, rfl, rfl⟩) (m_must1 (I := (xm_up J 60 5 (nI (xsk T t (xsp T t p i))))) (a := xsk T t (xrp T t (xsp T t p i) 0)) (by rw [xm_up_ne (Or.inr (by decide))]; exact h6) (xm_up_at _ _ _ _) rfl) ?_
    rintro _ _ ⟨rfl, rfl⟩
    refine xw_at (f' := (129, [.ref 60, .int (nI R), .int (nI c), .int (nI i), .int (nI (xlt T t (xsp T t p i))), .int (nI (xkc (xlt T t (xrp T t (xsp T t p i) 0)))), .float 0, .float 0, .float 0, .float 0], [])) (h' := (xS b, xm_up (xm_up J 60 5 (nI (xsk T t (xsp T t p i)))) 60 5 (nI (xsk T t (xrp T t (xsp T t p i) 0) + 1)), L, xP b)) rfl rfl ?_
    refine xw_at (f' := (129, [.ref 60, .int (nI R), .int (nI c), .int (nI i), .int (nI (xlt T t (xsp T t p i))), .int (nI (xkc (xlt T t (xrp T t (xsp T t p i) 0)))), .float 0, .float 0, .float 0, .float 0], [])) (h' := (xS b, xm_up J 60 5 (nI (xrp T t (xsp T t p i) 1)), L, xP b)) rfl (show (xS b, xm_up (xm_up J 60 5 (nI (xsk T t (xsp T t p i)))) 60 5 (nI (xsk T t (xrp T t (xsp T t p i) 0) + 1)), L, xP b) = (xS b, xm_up J 60 5 (nI (xrp T t (xsp T t p i) 1)), L, xP b) from ?_) ?_
    · rw [xup_2]
      rfl
    have r1 := (xMR_fr (J := xm_up J 60 5 (nI (xrp T t (xsp T t p i) 1))) hR (by rw [xm_up_ne (Or.inr (by decide))]) (by rw [xm_up_o (by decide)]))
    refine xw_go xb_139 5 (f1 := (134, [.ref 60, .int (nI R), .int (nI c), .int (nI i), .int (nI (xlt T t (xsp T t p i))), .int (nI (xkc (xlt T t (xrp T t (xsp T t p i) 0)))), .float 0, .float 0, .float 0, .float 0], [.int ((nI R) - 1), .int 0, .ref 60])) (h1 := (xS b, xm_up J 60 5 (nI (xrp T t (xsp T t p i) 1)), L, xP b)) rfl trivial ?_
    refine xw_cong (l' := [.ref 60, .int (nI R), .int (nI c), .int (nI i), .int (nI (xlt T t (xsp T t p i))), .int (nI (xkc (xlt T t (xrp T t (xsp T t p i) 0)))), .float 0, .float 0, .float 0, .float 0]) (st' := [.int (nI (R - 1)), .int 0, .ref 60]) (h' := (xS b, xm_up J 60 5 (nI (xrp T t (xsp T t p i) 1)), L, xP b)) rfl (show ([.int ((nI R) - 1), .int 0, .ref 60] : List Value) = [.int (nI (R - 1)), .int 0, .ref 60] from ?_) rfl ?_
    · rw [xl_1, xn_sub (by omega)]
    refine xw_call xb_139 rfl rfl rfl rfl rfl (Or.inr ⟨_, _, rfl, rfl⟩) (m_digit1 (I := (xm_up J 60 5 (nI (xrp T t (xsp T t p i) 1)))) (a := (xrp T t (xsp T t p i) 1)) (lo := 0) (hi := (R - 1)) r1 (by rw [xm_up_ne (Or.inr (by decide))]; exact h6) (xm_up_at _ _ _ _) (rl 1 (by omega)) (by omega) (by omega) (by omega) rfl rfl) ?_
    rintro _ _ ⟨rfl, rfl⟩
    refine xw_at (f' := (137, [.ref 60, .int (nI R), .int (nI c), .int (nI i), .int (nI (xlt T t (xsp T t p i))), .int (nI (xkc (xlt T t (xrp T t (xsp T t p i) 0)))), .float 0, .float 0, .float 0, .float 0], [.int (nI ((xlt T t (xrp T t (xsp T t p i) 1)) - 48))])) (h' := (xS b, xm_up (xm_up J 60 5 (nI (xrp T t (xsp T t p i) 1))) 60 5 (nI (xsk T t (xrp T t (xsp T t p i) 1) + 1)), L, xP b)) rfl rfl ?_
    refine xw_at (f' := (137, [.ref 60, .int (nI R), .int (nI c), .int (nI i), .int (nI (xlt T t (xsp T t p i))), .int (nI (xkc (xlt T t (xrp T t (xsp T t p i) 0)))), .float 0, .float 0, .float 0, .float 0], [.int (nI ((xlt T t (xrp T t (xsp T t p i) 1)) - 48))])) (h' := (xS b, xm_up J 60 5 (nI (xrp T t (xsp T t p i) 2)), L, xP b)) rfl (show (xS b, xm_up (xm_up J 60 5 (nI (xrp T t (xsp T t p i) 1))) 60 5 (nI (xsk T t (xrp T t (xsp T t p i) 1) + 1)), L, xP b) = (xS b, xm_up J 60 5 (nI (xrp T t (xsp T t p i) 2)), L, xP b) from ?_) ?_
    · rw [xup_2]
      rfl
    have r2 := (xMR_fr (J := xm_up J 60 5 (nI (xrp T t (xsp T t p i) 2))) hR (by rw [xm_up_ne (Or.inr (by decide))]) (by rw [xm_up_o (by decide)]))
    refine xw_go xb_139 6 (f1 := (144, [.ref 60, .int (nI R), .int (nI c), .int (nI i), .int (nI (xlt T t (xsp T t p i))), .int (nI (xkc (xlt T t (xrp T t (xsp T t p i) 0)))), .int (nI ((xlt T t (xrp T t (xsp T t p i) 1)) - 48)), .float 0, .float 0, .float 0], [.int ((nI c) - 1), .int 0, .ref 60])) (h1 := (xS b, xm_up J 60 5 (nI (xrp T t (xsp T t p i) 2)), L, xP b)) rfl trivial ?_
    refine xw_cong (l' := [.ref 60, .int (nI R), .int (nI c), .int (nI i), .int (nI (xlt T t (xsp T t p i))), .int (nI (xkc (xlt T t (xrp T t (xsp T t p i) 0)))), .int (nI ((xlt T t (xrp T t (xsp T t p i) 1)) - 48)), .float 0, .float 0, .float 0]) (st' := [.int (nI (c - 1)), .int 0, .ref 60]) (h' := (xS b, xm_up J 60 5 (nI (xrp T t (xsp T t p i) 2)), L, xP b)) rfl (show ([.int ((nI c) - 1), .int 0, .ref 60] : List Value) = [.int (nI (c - 1)), .int 0, .ref 60] from ?_) rfl ?_
    · rw [xl_1, xn_sub (by omega)]
    refine xw_call xb_139 rfl rfl rfl rfl rfl (Or.inr ⟨_, _, rfl, rfl⟩) (m_digit0 (I := (xm_up J 60 5 (nI (xrp T t (xsp T t p i) 2)))) (a := (xrp T t (xsp T t p i) 2)) (lo := 0) (hi := (c - 1)) r2 (by rw [xm_up_ne (Or.inr (by decide))]; exact h6) (xm_up_at _ _ _ _) (rl 2 (by omega)) (by omega) (by omega) (by omega) rfl rfl) ?_
    rintro _ _ ⟨rfl, rfl⟩
    refine xw_at (f' := (147, [.ref 60, .int (nI R), .int (nI c), .int (nI i), .int (nI (xlt T t (xsp T t p i))), .int (nI (xkc (xlt T t (xrp T t (xsp T t p i) 0)))), .int (nI ((xlt T t (xrp T t (xsp T t p i) 1)) - 48)), .float 0, .float 0, .float 0], [.int (nI (xlt T t (xrp T t (xsp T t p i) 2)) - 48)])) (h' := (xS b, xm_up (xm_up (xm_up J 60 5 (nI (xrp T t (xsp T t p i) 2))) 60 5 (nI (xsk T t (xrp T t (xsp T t p i) 2)))) 60 6 1, L, xP b)) rfl rfl ?_
    refine xw_at (f' := (147, [.ref 60, .int (nI R), .int (nI c), .int (nI i), .int (nI (xlt T t (xsp T t p i))), .int (nI (xkc (xlt T t (xrp T t (xsp T t p i) 0)))), .int (nI ((xlt T t (xrp T t (xsp T t p i) 1)) - 48)), .float 0, .float 0, .float 0], [.int (nI (xlt T t (xrp T t (xsp T t p i) 2)) - 48)])) (h' := (xS b, xm_up (xm_up J 60 5 (nI (xsk T t (xrp T t (xsp T t p i) 2)))) 60 6 1, L, xP b)) rfl (show (xS b, xm_up (xm_up (xm_up J 60 5 (nI (xrp T t (xsp T t p i) 2))) 60 5 (nI (xsk T t (xrp T t (xsp T t p i) 2)))) 60 6 1, L, xP b) = (xS b, xm_up (xm_up J 60 5 (nI (xsk T t (xrp T t (xsp T t p i) 2)))) 60 6 1, L, xP b) from ?_) ?_
    · rw [xup_2]
    refine xw_go xb_139 4 (f1 := (152, [.ref 60, .int (nI R), .int (nI c), .int (nI i), .int (nI (xlt T t (xsp T t p i))), .int (nI (xkc (xlt T t (xrp T t (xsp T t p i) 0)))), .int (nI ((xlt T t (xrp T t (xsp T t p i) 1)) - 48)), .int (nI (xlt T t (xrp T t (xsp T t p i) 2)) - 48), .float 0, .float 0], [.int 4, .int 0, .ref 60])) (h1 := (xS b, xm_up (xm_up J 60 5 (nI (xsk T t (xrp T t (xsp T t p i) 2)))) 60 6 1, L, xP b)) rfl trivial ?_
    refine xw_call xb_139 rfl rfl rfl rfl rfl (Or.inr ⟨_, _, rfl, rfl⟩) (m_digitF (I := (xm_up (xm_up J 60 5 (nI (xsk T t (xrp T t (xsp T t p i) 2)))) 60 6 1)) (a := xsk T t (xrp T t (xsp T t p i) 2)) (xm_up_at _ _ _ _) (by rw [xm_up_ne (Or.inr (by decide)), xm_up_at] <;> rfl)) ?_
    rintro _ _ ⟨rfl, rfl⟩
    refine xw_at (f' := (155, [.ref 60, .int (nI R), .int (nI c), .int (nI i), .int (nI (xlt T t (xsp T t p i))), .int (nI (xkc (xlt T t (xrp T t (xsp T t p i) 0)))), .int (nI ((xlt T t (xrp T t (xsp T t p i) 1)) - 48)), .int (nI (xlt T t (xrp T t (xsp T t p i) 2)) - 48), .float 0, .float 0], [.int (-1)])) (h' := (xS b, xm_up (xm_up J 60 5 (nI (xsk T t (xrp T t (xsp T t p i) 2)))) 60 6 1, L, xP b)) rfl rfl ?_
    refine xw_go xb_139 4 (f1 := (161, [.ref 60, .int (nI R), .int (nI c), .int (nI i), .int (nI (xlt T t (xsp T t p i))), .int (nI (xkc (xlt T t (xrp T t (xsp T t p i) 0)))), .int (nI ((xlt T t (xrp T t (xsp T t p i) 1)) - 48)), .int (nI (xlt T t (xrp T t (xsp T t p i) 2)) - 48), .int (-1), .float 0], [.int 9, .int 1, .ref 60])) (h1 := (xS b, xm_up (xm_up J 60 5 (nI (xsk T t (xrp T t (xsp T t p i) 2)))) 60 6 1, L, xP b)) rfl trivial ?_
    refine xw_call xb_139 rfl rfl rfl rfl rfl (Or.inr ⟨_, _, rfl, rfl⟩) (m_digitF (I := (xm_up (xm_up J 60 5 (nI (xsk T t (xrp T t (xsp T t p i) 2)))) 60 6 1)) (a := xsk T t (xrp T t (xsp T t p i) 2)) (xm_up_at _ _ _ _) (by rw [xm_up_ne (Or.inr (by decide)), xm_up_at] <;> rfl)) ?_
    rintro _ _ ⟨rfl, rfl⟩
    refine xw_at (f' := (164, [.ref 60, .int (nI R), .int (nI c), .int (nI i), .int (nI (xlt T t (xsp T t p i))), .int (nI (xkc (xlt T t (xrp T t (xsp T t p i) 0)))), .int (nI ((xlt T t (xrp T t (xsp T t p i) 1)) - 48)), .int (nI (xlt T t (xrp T t (xsp T t p i) 2)) - 48), .int (-1), .float 0], [.int (-1)])) (h' := (xS b, xm_up (xm_up J 60 5 (nI (xsk T t (xrp T t (xsp T t p i) 2)))) 60 6 1, L, xP b)) rfl rfl ?_
    refine xw_go xb_139 3 (f1 := (170, [.ref 60, .int (nI R), .int (nI c), .int (nI i), .int (nI (xlt T t (xsp T t p i))), .int (nI (xkc (xlt T t (xrp T t (xsp T t p i) 0)))), .int (nI ((xlt T t (xrp T t (xsp T t p i) 1)) - 48)), .int (nI (xlt T t (xrp T t (xsp T t p i) 2)) - 48), .int (-1), .int (-1)], [.int ((xm_up (xm_up J 60 5 (nI (xsk T t (xrp T t (xsp T t p i) 2)))) 60 6 1) 60 6)])) (h1 := (xS b, xm_up (xm_up J 60 5 (nI (xsk T t (xrp T t (xsp T t p i) 2)))) 60 6 1, L, xP b)) rfl ⟨rfl, trivial⟩ ?_
    refine xw_cong (l' := [.ref 60, .int (nI R), .int (nI c), .int (nI i), .int (nI (xlt T t (xsp T t p i))), .int (nI (xkc (xlt T t (xrp T t (xsp T t p i) 0)))), .int (nI ((xlt T t (xrp T t (xsp T t p i) 1)) - 48)), .int (nI (xlt T t (xrp T t (xsp T t p i) 2)) - 48), .int (-1), .int (-1)]) (st' := [.int 1]) (h' := (xS b, xm_up (xm_up J 60 5 (nI (xsk T t (xrp T t (xsp T t p i) 2)))) 60 6 1, L, xP b)) rfl (show ([.int ((xm_up (xm_up J 60 5 (nI (xsk T t (xrp T t (xsp T t p i) 2)))) 60 6 1) 60 6)] : List Value) = [.int 1] from ?_) rfl ?_
    · rw [xm_up_at]
    refine xw_go xb_139 2 (f1 := (227, [.ref 60, .int (nI R), .int (nI c), .int ((nI i) + 1), .int (nI (xlt T t (xsp T t p i))), .int (nI (xkc (xlt T t (xrp T t (xsp T t p i) 0)))), .int (nI ((xlt T t (xrp T t (xsp T t p i) 1)) - 48)), .int (nI (xlt T t (xrp T t (xsp T t p i) 2)) - 48), .int (-1), .int (-1)], [])) (h1 := (xS b, xm_up (xm_up J 60 5 (nI (xsk T t (xrp T t (xsp T t p i) 2)))) 60 6 1, L, xP b)) rfl trivial ?_
    refine xw_cong (l' := [.ref 60, .int (nI R), .int (nI c), .int (nI (i + 1)), .int (nI (xlt T t (xsp T t p i))), .int (nI (xkc (xlt T t (xrp T t (xsp T t p i) 0)))), .int (nI ((xlt T t (xrp T t (xsp T t p i) 1)) - 48)), .int (nI (xlt T t (xrp T t (xsp T t p i) 2)) - 48), .int (-1), .int (-1)]) (st' := []) (h' := (xS b, xm_up (xm_up J 60 5 (nI (xsk T t (xrp T t (xsp T t p i) 2)))) 60 6 1, L, xP b)) (show ([.ref 60, .int (nI R), .int (nI c), .int ((nI i) + 1), .int (nI (xlt T t (xsp T t p i))), .int (nI (xkc (xlt T t (xrp T t (xsp T t p i) 0)))), .int (nI ((xlt T t (xrp T t (xsp T t p i) 1)) - 48)), .int (nI (xlt T t (xrp T t (xsp T t p i) 2)) - 48), .int (-1), .int (-1)] : List Value) = [.ref 60, .int (nI R), .int (nI c), .int (nI (i + 1)), .int (nI (xlt T t (xsp T t p i))), .int (nI (xkc (xlt T t (xrp T t (xsp T t p i) 0)))), .int (nI ((xlt T t (xrp T t (xsp T t p i) 1)) - 48)), .int (nI (xlt T t (xrp T t (xsp T t p i) 2)) - 48), .int (-1), .int (-1)] from ?_) rfl rfl ?_
    · rw [nI_1]
    refine xw_go xb_139 1 (f1 := (2, [.ref 60, .int (nI R), .int (nI c), .int (nI (i + 1)), .int (nI (xlt T t (xsp T t p i))), .int (nI (xkc (xlt T t (xrp T t (xsp T t p i) 0)))), .int (nI ((xlt T t (xrp T t (xsp T t p i) 1)) - 48)), .int (nI (xlt T t (xrp T t (xsp T t p i) 2)) - 48), .int (-1), .int (-1)], [])) (h1 := (xS b, xm_up (xm_up J 60 5 (nI (xsk T t (xrp T t (xsp T t p i) 2)))) 60 6 1, L, xP b)) rfl trivial ?_
    refine xw_fg (l0 := [.ref 60, .int (nI R), .int (nI c), .int (nI (i + 1)), .float 0, .float 0, .float 0, .float 0, .float 0, .float 0]) ⟨Or.inr rfl, Or.inr rfl, Or.inr rfl, Or.inr rfl, Or.inl rfl, Or.inl rfl, Or.inl rfl, Or.inl rfl, Or.inl rfl, Or.inl rfl, trivial⟩ ?_
    refine xw_go xb_139 2 (f1 := (6, [.ref 60, .int (nI R), .int (nI c), .int (nI (i + 1)), .float 0, .float 0, .float 0, .float 0, .float 0, .float 0], [.int ((xm_up (xm_up J 60 5 (nI (xsk T t (xrp T t (xsp T t p i) 2)))) 60 6 1) 60 6)])) (h1 := (xS b, xm_up (xm_up J 60 5 (nI (xsk T t (xrp T t (xsp T t p i) 2)))) 60 6 1, L, xP b)) rfl ⟨rfl, trivial⟩ ?_
    refine xw_cong (l' := [.ref 60, .int (nI R), .int (nI c), .int (nI (i + 1)), .float 0, .float 0, .float 0, .float 0, .float 0, .float 0]) (st' := [.int 1]) (h' := (xS b, xm_up (xm_up J 60 5 (nI (xsk T t (xrp T t (xsp T t p i) 2)))) 60 6 1, L, xP b)) rfl (show ([.int ((xm_up (xm_up J 60 5 (nI (xsk T t (xrp T t (xsp T t p i) 2)))) 60 6 1) 60 6)] : List Value) = [.int 1] from ?_) rfl ?_
    · rw [xm_up_at]
    refine xw_go xb_139 1 (f1 := (230, [.ref 60, .int (nI R), .int (nI c), .int (nI (i + 1)), .float 0, .float 0, .float 0, .float 0, .float 0, .float 0], [])) (h1 := (xS b, xm_up (xm_up J 60 5 (nI (xsk T t (xrp T t (xsp T t p i) 2)))) 60 6 1, L, xP b)) rfl trivial ?_
    exact k _ (fun q h1 h2 => by rw [xm_up_o h1, xm_up_o h1]) (fun j h1 h2 => by rw [xm_up_ne (Or.inr h2), xm_up_ne (Or.inr h1)]) (by rw [xm_up_ne (Or.inr (by decide)), xm_up_at] <;> rfl) (xm_up_at _ _ _ _)
theorem m_spr3 {d : Nat} {b : Bool} {J : Nat → Nat → Int32} {L : Nat → Nat → Int64} {Q : Option Value → xm_H → Prop} {T : Nat → Nat} {t : Nat} (hR : xMR T t J) {R c p i : Nat} (h6 : J 60 6 = 0) (h5 : J 60 5 = nI (xsp T t p i)) (hs : xsp T t p i ≤ t) (bR : 2 ≤ R ∧ R ≤ 8) (bc : 2 ≤ c ∧ c ≤ 8) (hi : i < 5) (hm : xsm T t R c p i = 3) (k : ∀ K : Nat → Nat → Int32, (∀ q, q ≠ 60 → q ≠ 66 → K q = J q) → (∀ j, j ≠ 5 → j ≠ 6 → K 60 j = J 60 j) → K 60 5 = nI (xsk T t (xrp T t (xsp T t p i) 3)) → K 60 6 = 1 → xm_W (d + 2) 139 (230, [.ref 60, .int (nI R), .int (nI c), .int (nI (i + 1)), .float 0, .float 0, .float 0, .float 0, .float 0, .float 0], []) (xS b, K, L, xP b) Q) : xm_W (d + 2) 139 (40, [.ref 60, .int (nI R), .int (nI c), .int (nI i), .float 0, .float 0, .float 0, .float 0, .float 0, .float 0], []) (xS b, J, L, xP b) Q := by
  obtain ⟨f0, f1, f2, f3, f4⟩ := xr5_d (T := T) (t := t) (R := R) (c := c) (p := p) (i := i) (m := 3) (by omega) (by decide)
  replace f0 := f0 (by decide)
  replace f1 := f1 (by decide)
  replace f2 := f2 (by decide)
  have rl : ∀ k, k ≤ 3 → xrp T t (xsp T t p i) k ≤ t := xr5_le (R := R) (c := c) hs (fun j hj => xld_t 5 j (by unfold xsm at hm; omega))
  have fn := xld_f (f := xf5 T t R c (xsp T t p i)) 5 (by unfold xsm at hm; omega)
  rw [show xld (xf5 T t R c (xsp T t p i)) 5 = 3 from hm] at fn
  replace f3 : ¬ (48 ≤ (xlt T t (xrp T t (xsp T t p i) 3)) ∧ (xlt T t (xrp T t (xsp T t p i) 3)) < 53) := of_decide_eq_false (show decide (48 ≤ (xlt T t (xrp T t (xsp T t p i) 3)) ∧ (xlt T t (xrp T t (xsp T t p i) 3)) < 53) = false from fn)
  refine xw_go xb_139 2 (f1 := (44, [.ref 60, .int (nI R), .int (nI c), .int (nI i), .float 0, .float 0, .float 0, .float 0, .float 0, .float 0], [.int (J 60 6)])) (h1 := (xS b, J, L, xP b)) rfl ⟨rfl, trivial⟩ ?_
  refine xw_cong (l' := [.ref 60, .int (nI R), .int (nI c), .int (nI i), .float 0, .float 0, .float 0, .float 0, .float 0, .float 0]) (st' := [.int 0]) (h' := (xS b, J, L, xP b)) rfl (show ([.int (J 60 6)] : List Value) = [.int 0] from ?_) rfl ?_
  · rw [h6]
  refine xw_go xb_139 2 (f1 := (52, [.ref 60, .int (nI R), .int (nI c), .int (nI i), .float 0, .float 0, .float 0, .float 0, .float 0, .float 0], [.ref 60])) (h1 := (xS b, J, L, xP b)) rfl trivial ?_
  refine xw_call xb_139 rfl rfl rfl rfl rfl (Or.inr ⟨_, _, rfl, rfl⟩) (m_here (I := J) (a := (xsp T t p i)) hR h5 hs) ?_
  rintro _ _ ⟨rfl, rfl⟩
  refine xw_at (f' := (55, [.ref 60, .int (nI R), .int (nI c), .int (nI i), .float 0, .float 0, .float 0, .float 0, .float 0, .float 0], [.int (nI (xlt T t (xsp T t p i)))])) (h' := (xS b, xm_up J 60 5 (nI (xsk T t (xsp T t p i))), L, xP b)) rfl rfl ?_
  refine xw_go xb_139 1 (f1 := (57, [.ref 60, .int (nI R), .int (nI c), .int (nI i), .int (nI (xlt T t (xsp T t p i))), .float 0, .float 0, .float 0, .float 0, .float 0], [])) (h1 := (xS b, xm_up J 60 5 (nI (xsk T t (xsp T t p i))), L, xP b)) rfl trivial ?_
  refine m_kind (l := xlt T t (xsp T t p i)) (xlt_le hR.2.1) ?_
  refine xw_cong (l' := [.ref 60, .int (nI R), .int (nI c), .int (nI i), .int (nI (xlt T t (xsp T t p i))), .float 0, .float 0, .float 0, .float 0, .float 0]) (st' := [.int (nI (xkc (xlt T t (xrp T t (xsp T t p i) 0))))]) (h' := (xS b, xm_up J 60 5 (nI (xsk T t (xsp T t p i))), L, xP b)) rfl (show ([.int (xkv (xlt T t (xsp T t p i)))] : List Value) = [.int (nI (xkc (xlt T t (xrp T t (xsp T t p i) 0))))] from ?_) rfl ?_
  · exact congrArg (fun q => [Value.int q]) (xkv_k f0)
  refine xw_go xb_139 4 (f1 := (if (nI (xkc (xlt T t (xrp T t (xsp T t p i) 0)))) < 0 then 125 else 121, [.ref 60, .int (nI R), .int (nI c), .int (nI i), .int (nI (xlt T t (xsp T t p i))), .int (nI (xkc (xlt T t (xrp T t (xsp T t p i) 0)))), .float 0, .float 0, .float 0, .float 0], [.ref 60])) (h1 := (xS b, xm_up J 60 5 (nI (xsk T t (xsp T t p i))), L, xP b)) rfl trivial ?_
  refine xw_if (fun c_118 => ?_) (fun c_118 => ?_)
  · skip
    exfalso
    rw [xl_0, nI_ltI (by omega) (by omega)] at c_118
    omega
  · skip
    refine xw_go xb_139 2 (f1 := (126, [.ref 60, .int (nI R), .int (nI c), .int (nI i), .int (nI (xlt T t (xsp T t p i))), .int (nI (xkc (xlt T t (xrp T t (xsp T t p i) 0)))), .float 0, .float 0, .float 0, .float 0], [.int 1, .ref 60])) (h1 := (xS b, xm_up J 60 5 (nI (xsk T t (xsp T t p i))), L, xP b)) rfl trivial ?_
    refine xw_call xb_139 rfl rfl rfl rfl rfl (Or.inr ⟨_, _, rfl, rfl⟩) (m_must1 (I := (xm_up J 60 5 (nI (xsk T t (xsp T t p i))))) (a := xsk T t (xrp T t (xsp T t p i) 0)) (by rw [xm_up_ne (Or.inr (by decide))]; exact h6) (xm_up_at _ _ _ _) rfl) ?_
    rintro _ _ ⟨rfl, rfl⟩
    refine xw_at (f' := (129, [.ref 60, .int (nI R), .int (nI c), .int (nI i), .int (nI (xlt T t (xsp T t p i))), .int (nI (xkc (xlt T t (xrp T t (xsp T t p i) 0)))), .float 0, .float 0, .float 0, .float 0], [])) (h' := (xS b, xm_up (xm_up J 60 5 (nI (xsk T t (xsp T t p i)))) 60 5 (nI (xsk T t (xrp T t (xsp T t p i) 0) + 1)), L, xP b)) rfl rfl ?_
    refine xw_at (f' := (129, [.ref 60, .int (nI R), .int (nI c), .int (nI i), .int (nI (xlt T t (xsp T t p i))), .int (nI (xkc (xlt T t (xrp T t (xsp T t p i) 0)))), .float 0, .float 0, .float 0, .float 0], [])) (h' := (xS b, xm_up J 60 5 (nI (xrp T t (xsp T t p i) 1)), L, xP b)) rfl (show (xS b, xm_up (xm_up J 60 5 (nI (xsk T t (xsp T t p i)))) 60 5 (nI (xsk T t (xrp T t (xsp T t p i) 0) + 1)), L, xP b) = (xS b, xm_up J 60 5 (nI (xrp T t (xsp T t p i) 1)), L, xP b) from ?_) ?_
    · rw [xup_2]
      rfl
    have r1 := (xMR_fr (J := xm_up J 60 5 (nI (xrp T t (xsp T t p i) 1))) hR (by rw [xm_up_ne (Or.inr (by decide))]) (by rw [xm_up_o (by decide)]))
    refine xw_go xb_139 5 (f1 := (134, [.ref 60, .int (nI R), .int (nI c), .int (nI i), .int (nI (xlt T t (xsp T t p i))), .int (nI (xkc (xlt T t (xrp T t (xsp T t p i) 0)))), .float 0, .float 0, .float 0, .float 0], [.int ((nI R) - 1), .int 0, .ref 60])) (h1 := (xS b, xm_up J 60 5 (nI (xrp T t (xsp T t p i) 1)), L, xP b)) rfl trivial ?_
    refine xw_cong (l' := [.ref 60, .int (nI R), .int (nI c), .int (nI i), .int (nI (xlt T t (xsp T t p i))), .int (nI (xkc (xlt T t (xrp T t (xsp T t p i) 0)))), .float 0, .float 0, .float 0, .float 0]) (st' := [.int (nI (R - 1)), .int 0, .ref 60]) (h' := (xS b, xm_up J 60 5 (nI (xrp T t (xsp T t p i) 1)), L, xP b)) rfl (show ([.int ((nI R) - 1), .int 0, .ref 60] : List Value) = [.int (nI (R - 1)), .int 0, .ref 60] from ?_) rfl ?_
    · rw [xl_1, xn_sub (by omega)]
    refine xw_call xb_139 rfl rfl rfl rfl rfl (Or.inr ⟨_, _, rfl, rfl⟩) (m_digit1 (I := (xm_up J 60 5 (nI (xrp T t (xsp T t p i) 1)))) (a := (xrp T t (xsp T t p i) 1)) (lo := 0) (hi := (R - 1)) r1 (by rw [xm_up_ne (Or.inr (by decide))]; exact h6) (xm_up_at _ _ _ _) (rl 1 (by omega)) (by omega) (by omega) (by omega) rfl rfl) ?_
    rintro _ _ ⟨rfl, rfl⟩
    refine xw_at (f' := (137, [.ref 60, .int (nI R), .int (nI c), .int (nI i), .int (nI (xlt T t (xsp T t p i))), .int (nI (xkc (xlt T t (xrp T t (xsp T t p i) 0)))), .float 0, .float 0, .float 0, .float 0], [.int (nI ((xlt T t (xrp T t (xsp T t p i) 1)) - 48))])) (h' := (xS b, xm_up (xm_up J 60 5 (nI (xrp T t (xsp T t p i) 1))) 60 5 (nI (xsk T t (xrp T t (xsp T t p i) 1) + 1)), L, xP b)) rfl rfl ?_
    refine xw_at (f' := (137, [.ref 60, .int (nI R), .int (nI c), .int (nI i), .int (nI (xlt T t (xsp T t p i))), .int (nI (xkc (xlt T t (xrp T t (xsp T t p i) 0)))), .float 0, .float 0, .float 0, .float 0], [.int (nI ((xlt T t (xrp T t (xsp T t p i) 1)) - 48))])) (h' := (xS b, xm_up J 60 5 (nI (xrp T t (xsp T t p i) 2)), L, xP b)) rfl (show (xS b, xm_up (xm_up J 60 5 (nI (xrp T t (xsp T t p i) 1))) 60 5 (nI (xsk T t (xrp T t (xsp T t p i) 1) + 1)), L, xP b) = (xS b, xm_up J 60 5 (nI (xrp T t (xsp T t p i) 2)), L, xP b) from ?_) ?_
    · rw [xup_2]
      rfl
    have r2 := (xMR_fr (J := xm_up J 60 5 (nI (xrp T t (xsp T t p i) 2))) hR (by rw [xm_up_ne (Or.inr (by decide))]) (by rw [xm_up_o (by decide)]))
    refine xw_go xb_139 6 (f1 := (144, [.ref 60, .int (nI R), .int (nI c), .int (nI i), .int (nI (xlt T t (xsp T t p i))), .int (nI (xkc (xlt T t (xrp T t (xsp T t p i) 0)))), .int (nI ((xlt T t (xrp T t (xsp T t p i) 1)) - 48)), .float 0, .float 0, .float 0], [.int ((nI c) - 1), .int 0, .ref 60])) (h1 := (xS b, xm_up J 60 5 (nI (xrp T t (xsp T t p i) 2)), L, xP b)) rfl trivial ?_
    refine xw_cong (l' := [.ref 60, .int (nI R), .int (nI c), .int (nI i), .int (nI (xlt T t (xsp T t p i))), .int (nI (xkc (xlt T t (xrp T t (xsp T t p i) 0)))), .int (nI ((xlt T t (xrp T t (xsp T t p i) 1)) - 48)), .float 0, .float 0, .float 0]) (st' := [.int (nI (c - 1)), .int 0, .ref 60]) (h' := (xS b, xm_up J 60 5 (nI (xrp T t (xsp T t p i) 2)), L, xP b)) rfl (show ([.int ((nI c) - 1), .int 0, .ref 60] : List Value) = [.int (nI (c - 1)), .int 0, .ref 60] from ?_) rfl ?_
    · rw [xl_1, xn_sub (by omega)]
    refine xw_call xb_139 rfl rfl rfl rfl rfl (Or.inr ⟨_, _, rfl, rfl⟩) (m_digit1 (I := (xm_up J 60 5 (nI (xrp T t (xsp T t p i) 2)))) (a := (xrp T t (xsp T t p i) 2)) (lo := 0) (hi := (c - 1)) r2 (by rw [xm_up_ne (Or.inr (by decide))]; exact h6) (xm_up_at _ _ _ _) (rl 2 (by omega)) (by omega) (by omega) (by omega) rfl rfl) ?_
    rintro _ _ ⟨rfl, rfl⟩
    refine xw_at (f' := (147, [.ref 60, .int (nI R), .int (nI c), .int (nI i), .int (nI (xlt T t (xsp T t p i))), .int (nI (xkc (xlt T t (xrp T t (xsp T t p i) 0)))), .int (nI ((xlt T t (xrp T t (xsp T t p i) 1)) - 48)), .float 0, .float 0, .float 0], [.int (nI ((xlt T t (xrp T t (xsp T t p i) 2)) - 48))])) (h' := (xS b, xm_up (xm_up J 60 5 (nI (xrp T t (xsp T t p i) 2))) 60 5 (nI (xsk T t (xrp T t (xsp T t p i) 2) + 1)), L, xP b)) rfl rfl ?_
    refine xw_at (f' := (147, [.ref 60, .int (nI R), .int (nI c), .int (nI i), .int (nI (xlt T t (xsp T t p i))), .int (nI (xkc (xlt T t (xrp T t (xsp T t p i) 0)))), .int (nI ((xlt T t (xrp T t (xsp T t p i) 1)) - 48)), .float 0, .float 0, .float 0], [.int (nI ((xlt T t (xrp T t (xsp T t p i) 2)) - 48))])) (h' := (xS b, xm_up J 60 5 (nI (xrp T t (xsp T t p i) 3)), L, xP b)) rfl (show (xS b, xm_up (xm_up J 60 5 (nI (xrp T t (xsp T t p i) 2))) 60 5 (nI (xsk T t (xrp T t (xsp T t p i) 2) + 1)), L, xP b) = (xS b, xm_up J 60 5 (nI (xrp T t (xsp T t p i) 3)), L, xP b) from ?_) ?_
    · rw [xup_2]
      rfl
    have r3 := (xMR_fr (J := xm_up J 60 5 (nI (xrp T t (xsp T t p i) 3))) hR (by rw [xm_up_ne (Or.inr (by decide))]) (by rw [xm_up_o (by decide)]))
    refine xw_go xb_139 4 (f1 := (152, [.ref 60, .int (nI R), .int (nI c), .int (nI i), .int (nI (xlt T t (xsp T t p i))), .int (nI (xkc (xlt T t (xrp T t (xsp T t p i) 0)))), .int (nI ((xlt T t (xrp T t (xsp T t p i) 1)) - 48)), .int (nI ((xlt T t (xrp T t (xsp T t p i) 2)) - 48)), .float 0, .float 0], [.int 4, .int 0, .ref 60])) (h1 := (xS b, xm_up J 60 5 (nI (xrp T t (xsp T t p i) 3)), L, xP b)) rfl trivial ?_
    refine xw_call xb_139 rfl rfl rfl rfl rfl (Or.inr ⟨_, _, rfl, rfl⟩) (m_digit0 (I := (xm_up J 60 5 (nI (xrp T t (xsp T t p i) 3)))) (a := (xrp T t (xsp T t p i) 3)) (lo := 0) (hi := 4) r3 (by rw [xm_up_ne (Or.inr (by decide))]; exact h6) (xm_up_at _ _ _ _) (rl 3 (by omega)) (by omega) (by omega) (by omega) rfl rfl) ?_
    rintro _ _ ⟨rfl, rfl⟩
    refine xw_at (f' := (155, [.ref 60, .int (nI R), .int (nI c), .int (nI i), .int (nI (xlt T t (xsp T t p i))), .int (nI (xkc (xlt T t (xrp T t (xsp T t p i) 0)))), .int (nI ((xlt T t (xrp T t (xsp T t p i) 1)) - 48)), .int (nI ((xlt T t (xrp T t (xsp T t p i) 2)) - 48)), .float 0, .float 0], [.int (nI (xlt T t (xrp T t (xsp T t p i) 3)) - 48)])) (h' := (xS b, xm_up (xm_up (xm_up J 60 5 (nI (xrp T t (xsp T t p i) 3))) 60 5 (nI (xsk T t (xrp T t (xsp T t p i) 3)))) 60 6 1, L, xP b)) rfl rfl ?_
    refine xw_at (f' := (155, [.ref 60, .int (nI R), .int (nI c), .int (nI i), .int (nI (xlt T t (xsp T t p i))), .int (nI (xkc (xlt T t (xrp T t (xsp T t p i) 0)))), .int (nI ((xlt T t (xrp T t (xsp T t p i) 1)) - 48)), .int (nI ((xlt T t (xrp T t (xsp T t p i) 2)) - 48)), .float 0, .float 0], [.int (nI (xlt T t (xrp T t (xsp T t p i) 3)) - 48)])) (h' := (xS b, xm_up (xm_up J 60 5 (nI (xsk T t (xrp T t (xsp T t p i) 3)))) 60 6 1, L, xP b)) rfl (show (xS b, xm_up (xm_up (xm_up J 60 5 (nI (xrp T t (xsp T t p i) 3))) 60 5 (nI (xsk T t (xrp T t (xsp T t p i) 3)))) 60 6 1, L, xP b) = (xS b, xm_up (xm_up J 60 5 (nI (xsk T t (xrp T t (xsp T t p i) 3)))) 60 6 1, L, xP b) from ?_) ?_
    · rw [xup_2]
    refine xw_go xb_139 4 (f1 := (161, [.ref 60, .int (nI R), .int (nI c), .int (nI i), .int (nI (xlt T t (xsp T t p i))), .int (nI (xkc (xlt T t (xrp T t (xsp T t p i) 0)))), .int (nI ((xlt T t (xrp T t (xsp T t p i) 1)) - 48)), .int (nI ((xlt T t (xrp T t (xsp T t p i) 2)) - 48)), .int (nI (xlt T t (xrp T t (xsp T t p i) 3)) - 48), .float 0], [.int 9, .int 1, .ref 60])) (h1 := (xS b, xm_up (xm_up J 60 5 (nI (xsk T t (xrp T t (xsp T t p i) 3)))) 60 6 1, L, xP b)) rfl trivial ?_
    refine xw_call xb_139 rfl rfl rfl rfl rfl (Or.inr ⟨_, _, rfl, rfl⟩) (m_digitF (I := (xm_up (xm_up J 60 5 (nI (xsk T t (xrp T t (xsp T t p i) 3)))) 60 6 1)) (a := xsk T t (xrp T t (xsp T t p i) 3)) (xm_up_at _ _ _ _) (by rw [xm_up_ne (Or.inr (by decide)), xm_up_at] <;> rfl)) ?_
    rintro _ _ ⟨rfl, rfl⟩
    refine xw_at (f' := (164, [.ref 60, .int (nI R), .int (nI c), .int (nI i), .int (nI (xlt T t (xsp T t p i))), .int (nI (xkc (xlt T t (xrp T t (xsp T t p i) 0)))), .int (nI ((xlt T t (xrp T t (xsp T t p i) 1)) - 48)), .int (nI ((xlt T t (xrp T t (xsp T t p i) 2)) - 48)), .int (nI (xlt T t (xrp T t (xsp T t p i) 3)) - 48), .float 0], [.int (-1)])) (h' := (xS b, xm_up (xm_up J 60 5 (nI (xsk T t (xrp T t (xsp T t p i) 3)))) 60 6 1, L, xP b)) rfl rfl ?_
    refine xw_go xb_139 3 (f1 := (170, [.ref 60, .int (nI R), .int (nI c), .int (nI i), .int (nI (xlt T t (xsp T t p i))), .int (nI (xkc (xlt T t (xrp T t (xsp T t p i) 0)))), .int (nI ((xlt T t (xrp T t (xsp T t p i) 1)) - 48)), .int (nI ((xlt T t (xrp T t (xsp T t p i) 2)) - 48)), .int (nI (xlt T t (xrp T t (xsp T t p i) 3)) - 48), .int (-1)], [.int ((xm_up (xm_up J 60 5 (nI (xsk T t (xrp T t (xsp T t p i) 3)))) 60 6 1) 60 6)])) (h1 := (xS b, xm_up (xm_up J 60 5 (nI (xsk T t (xrp T t (xsp T t p i) 3)))) 60 6 1, L, xP b)) rfl ⟨rfl, trivial⟩ ?_
    refine xw_cong (l' := [.ref 60, .int (nI R), .int (nI c), .int (nI i), .int (nI (xlt T t (xsp T t p i))), .int (nI (xkc (xlt T t (xrp T t (xsp T t p i) 0)))), .int (nI ((xlt T t (xrp T t (xsp T t p i) 1)) - 48)), .int (nI ((xlt T t (xrp T t (xsp T t p i) 2)) - 48)), .int (nI (xlt T t (xrp T t (xsp T t p i) 3)) - 48), .int (-1)]) (st' := [.int 1]) (h' := (xS b, xm_up (xm_up J 60 5 (nI (xsk T t (xrp T t (xsp T t p i) 3)))) 60 6 1, L, xP b)) rfl (show ([.int ((xm_up (xm_up J 60 5 (nI (xsk T t (xrp T t (xsp T t p i) 3)))) 60 6 1) 60 6)] : List Value) = [.int 1] from ?_) rfl ?_
    · rw [xm_up_at]
    refine xw_go xb_139 2 (f1 := (227, [.ref 60, .int (nI R), .int (nI c), .int ((nI i) + 1), .int (nI (xlt T t (xsp T t p i))), .int (nI (xkc (xlt T t (xrp T t (xsp T t p i) 0)))), .int (nI ((xlt T t (xrp T t (xsp T t p i) 1)) - 48)), .int (nI ((xlt T t (xrp T t (xsp T t p i) 2)) - 48)), .int (nI (xlt T t (xrp T t (xsp T t p i) 3)) - 48), .int (-1)], [])) (h1 := (xS b, xm_up (xm_up J 60 5 (nI (xsk T t (xrp T t (xsp T t p i) 3)))) 60 6 1, L, xP b)) rfl trivial ?_
    refine xw_cong (l' := [.ref 60, .int (nI R), .int (nI c), .int (nI (i + 1)), .int (nI (xlt T t (xsp T t p i))), .int (nI (xkc (xlt T t (xrp T t (xsp T t p i) 0)))), .int (nI ((xlt T t (xrp T t (xsp T t p i) 1)) - 48)), .int (nI ((xlt T t (xrp T t (xsp T t p i) 2)) - 48)), .int (nI (xlt T t (xrp T t (xsp T t p i) 3)) - 48), .int (-1)]) (st' := []) (h' := (xS b, xm_up (xm_up J 60 5 (nI (xsk T t (xrp T t (xsp T t p i) 3)))) 60 6 1, L, xP b)) (show ([.ref 60, .int (nI R), .int (nI c), .int ((nI i) + 1), .int (nI (xlt T t (xsp T t p i))), .int (nI (xkc (xlt T t (xrp T t (xsp T t p i) 0)))), .int (nI ((xlt T t (xrp T t (xsp T t p i) 1)) - 48)), .int (nI ((xlt T t (xrp T t (xsp T t p i) 2)) - 48)), .int (nI (xlt T t (xrp T t (xsp T t p i) 3)) - 48), .int (-1)] : List Value) = [.ref 60, .int (nI R), .int (nI c), .int (nI (i + 1)), .int (nI (xlt T t (xsp T t p i))), .int (nI (xkc (xlt T t (xrp T t (xsp T t p i) 0)))), .int (nI ((xlt T t (xrp T t (xsp T t p i) 1)) - 48)), .int (nI ((xlt T t (xrp T t (xsp T t p i) 2)) - 48)), .int (nI (xlt T t (xrp T t (xsp T t p i) 3)) - 48), .int (-1)] from ?_) rfl rfl ?_
    · rw [nI_1]
    refine xw_go xb_139 1 (f1 := (2, [.ref 60, .int (nI R), .int (nI c), .int (nI (i + 1)), .int (nI (xlt T t (xsp T t p i))), .int (nI (xkc (xlt T t (xrp T t (xsp T t p i) 0)))), .int (nI ((xlt T t (xrp T t (xsp T t p i) 1)) - 48)), .int (nI ((xlt T t (xrp T t (xsp T t p i) 2)) - 48)), .int (nI (xlt T t (xrp T t (xsp T t p i) 3)) - 48), .int (-1)], [])) (h1 := (xS b, xm_up (xm_up J 60 5 (nI (xsk T t (xrp T t (xsp T t p i) 3)))) 60 6 1, L, xP b)) rfl trivial ?_
    refine xw_fg (l0 := [.ref 60, .int (nI R), .int (nI c), .int (nI (i + 1)), .float 0, .float 0, .float 0, .float 0, .float 0, .float 0]) ⟨Or.inr rfl, Or.inr rfl, Or.inr rfl, Or.inr rfl, Or.inl rfl, Or.inl rfl, Or.inl rfl, Or.inl rfl, Or.inl rfl, Or.inl rfl, trivial⟩ ?_
    refine xw_go xb_139 2 (f1 := (6, [.ref 60, .int (nI R), .int (nI c), .int (nI (i + 1)), .float 0, .float 0, .float 0, .float 0, .float 0, .float 0], [.int ((xm_up (xm_up J 60 5 (nI (xsk T t (xrp T t (xsp T t p i) 3)))) 60 6 1) 60 6)])) (h1 := (xS b, xm_up (xm_up J 60 5 (nI (xsk T t (xrp T t (xsp T t p i) 3)))) 60 6 1, L, xP b)) rfl ⟨rfl, trivial⟩ ?_
    refine xw_cong (l' := [.ref 60, .int (nI R), .int (nI c), .int (nI (i + 1)), .float 0, .float 0, .float 0, .float 0, .float 0, .float 0]) (st' := [.int 1]) (h' := (xS b, xm_up (xm_up J 60 5 (nI (xsk T t (xrp T t (xsp T t p i) 3)))) 60 6 1, L, xP b)) rfl (show ([.int ((xm_up (xm_up J 60 5 (nI (xsk T t (xrp T t (xsp T t p i) 3)))) 60 6 1) 60 6)] : List Value) = [.int 1] from ?_) rfl ?_
    · rw [xm_up_at]
    refine xw_go xb_139 1 (f1 := (230, [.ref 60, .int (nI R), .int (nI c), .int (nI (i + 1)), .float 0, .float 0, .float 0, .float 0, .float 0, .float 0], [])) (h1 := (xS b, xm_up (xm_up J 60 5 (nI (xsk T t (xrp T t (xsp T t p i) 3)))) 60 6 1, L, xP b)) rfl trivial ?_
    exact k _ (fun q h1 h2 => by rw [xm_up_o h1, xm_up_o h1]) (fun j h1 h2 => by rw [xm_up_ne (Or.inr h2), xm_up_ne (Or.inr h1)]) (by rw [xm_up_ne (Or.inr (by decide)), xm_up_at] <;> rfl) (xm_up_at _ _ _ _)
theorem m_spr4 {d : Nat} {b : Bool} {J : Nat → Nat → Int32} {L : Nat → Nat → Int64} {Q : Option Value → xm_H → Prop} {T : Nat → Nat} {t : Nat} (hR : xMR T t J) {R c p i : Nat} (h6 : J 60 6 = 0) (h5 : J 60 5 = nI (xsp T t p i)) (hs : xsp T t p i ≤ t) (bR : 2 ≤ R ∧ R ≤ 8) (bc : 2 ≤ c ∧ c ≤ 8) (hi : i < 5) (hm : xsm T t R c p i = 4) (k : ∀ K : Nat → Nat → Int32, (∀ q, q ≠ 60 → q ≠ 66 → K q = J q) → (∀ j, j ≠ 5 → j ≠ 6 → K 60 j = J 60 j) → K 60 5 = nI (xsk T t (xrp T t (xsp T t p i) 4)) → K 60 6 = 1 → xm_W (d + 2) 139 (230, [.ref 60, .int (nI R), .int (nI c), .int (nI (i + 1)), .float 0, .float 0, .float 0, .float 0, .float 0, .float 0], []) (xS b, K, L, xP b) Q) : xm_W (d + 2) 139 (40, [.ref 60, .int (nI R), .int (nI c), .int (nI i), .float 0, .float 0, .float 0, .float 0, .float 0, .float 0], []) (xS b, J, L, xP b) Q := by
  obtain ⟨f0, f1, f2, f3, f4⟩ := xr5_d (T := T) (t := t) (R := R) (c := c) (p := p) (i := i) (m := 4) (by omega) (by decide)
  replace f0 := f0 (by decide)
  replace f1 := f1 (by decide)
  replace f2 := f2 (by decide)
  replace f3 := f3 (by decide)
  have rl : ∀ k, k ≤ 4 → xrp T t (xsp T t p i) k ≤ t := xr5_le (R := R) (c := c) hs (fun j hj => xld_t 5 j (by unfold xsm at hm; omega))
  have fn := xld_f (f := xf5 T t R c (xsp T t p i)) 5 (by unfold xsm at hm; omega)
  rw [show xld (xf5 T t R c (xsp T t p i)) 5 = 4 from hm] at fn
  replace f4 : ¬ (49 ≤ (xlt T t (xrp T t (xsp T t p i) 4)) ∧ (xlt T t (xrp T t (xsp T t p i) 4)) < 58) := of_decide_eq_false (show decide (49 ≤ (xlt T t (xrp T t (xsp T t p i) 4)) ∧ (xlt T t (xrp T t (xsp T t p i) 4)) < 58) = false from fn)
  refine xw_go xb_139 2 (f1 := (44, [.ref 60, .int (nI R), .int (nI c), .int (nI i), .float 0, .float 0, .float 0, .float 0, .float 0, .float 0], [.int (J 60 6)])) (h1 := (xS b, J, L, xP b)) rfl ⟨rfl, trivial⟩ ?_
  refine xw_cong (l' := [.ref 60, .int (nI R), .int (nI c), .int (nI i), .float 0, .float 0, .float 0, .float 0, .float 0, .float 0]) (st' := [.int 0]) (h' := (xS b, J, L, xP b)) rfl (show ([.int (J 60 6)] : List Value) = [.int 0] from ?_) rfl ?_
  · rw [h6]
  refine xw_go xb_139 2 (f1 := (52, [.ref 60, .int (nI R), .int (nI c), .int (nI i), .float 0, .float 0, .float 0, .float 0, .float 0, .float 0], [.ref 60])) (h1 := (xS b, J, L, xP b)) rfl trivial ?_
  refine xw_call xb_139 rfl rfl rfl rfl rfl (Or.inr ⟨_, _, rfl, rfl⟩) (m_here (I := J) (a := (xsp T t p i)) hR h5 hs) ?_
  rintro _ _ ⟨rfl, rfl⟩
  refine xw_at (f' := (55, [.ref 60, .int (nI R), .int (nI c), .int (nI i), .float 0, .float 0, .float 0, .float 0, .float 0, .float 0], [.int (nI (xlt T t (xsp T t p i)))])) (h' := (xS b, xm_up J 60 5 (nI (xsk T t (xsp T t p i))), L, xP b)) rfl rfl ?_
  refine xw_go xb_139 1 (f1 := (57, [.ref 60, .int (nI R), .int (nI c), .int (nI i), .int (nI (xlt T t (xsp T t p i))), .float 0, .float 0, .float 0, .float 0, .float 0], [])) (h1 := (xS b, xm_up J 60 5 (nI (xsk T t (xsp T t p i))), L, xP b)) rfl trivial ?_
  refine m_kind (l := xlt T t (xsp T t p i)) (xlt_le hR.2.1) ?_
  refine xw_cong (l' := [.ref 60, .int (nI R), .int (nI c), .int (nI i), .int (nI (xlt T t (xsp T t p i))), .float 0, .float 0, .float 0, .float 0, .float 0]) (st' := [.int (nI (xkc (xlt T t (xrp T t (xsp T t p i) 0))))]) (h' := (xS b, xm_up J 60 5 (nI (xsk T t (xsp T t p i))), L, xP b)) rfl (show ([.int (xkv (xlt T t (xsp T t p i)))] : List Value) = [.int (nI (xkc (xlt T t (xrp T t (xsp T t p i) 0))))] from ?_) rfl ?_
  · exact congrArg (fun q => [Value.int q]) (xkv_k f0)
  refine xw_go xb_139 4 (f1 := (if (nI (xkc (xlt T t (xrp T t (xsp T t p i) 0)))) < 0 then 125 else 121, [.ref 60, .int (nI R), .int (nI c), .int (nI i), .int (nI (xlt T t (xsp T t p i))), .int (nI (xkc (xlt T t (xrp T t (xsp T t p i) 0)))), .float 0, .float 0, .float 0, .float 0], [.ref 60])) (h1 := (xS b, xm_up J 60 5 (nI (xsk T t (xsp T t p i))), L, xP b)) rfl trivial ?_
  refine xw_if (fun c_118 => ?_) (fun c_118 => ?_)
  · skip
    exfalso
    rw [xl_0, nI_ltI (by omega) (by omega)] at c_118
    omega
  · skip
    refine xw_go xb_139 2 (f1 := (126, [.ref 60, .int (nI R), .int (nI c), .int (nI i), .int (nI (xlt T t (xsp T t p i))), .int (nI (xkc (xlt T t (xrp T t (xsp T t p i) 0)))), .float 0, .float 0, .float 0, .float 0], [.int 1, .ref 60])) (h1 := (xS b, xm_up J 60 5 (nI (xsk T t (xsp T t p i))), L, xP b)) rfl trivial ?_
    refine xw_call xb_139 rfl rfl rfl rfl rfl (Or.inr ⟨_, _, rfl, rfl⟩) (m_must1 (I := (xm_up J 60 5 (nI (xsk T t (xsp T t p i))))) (a := xsk T t (xrp T t (xsp T t p i) 0)) (by rw [xm_up_ne (Or.inr (by decide))]; exact h6) (xm_up_at _ _ _ _) rfl) ?_
    rintro _ _ ⟨rfl, rfl⟩
    refine xw_at (f' := (129, [.ref 60, .int (nI R), .int (nI c), .int (nI i), .int (nI (xlt T t (xsp T t p i))), .int (nI (xkc (xlt T t (xrp T t (xsp T t p i) 0)))), .float 0, .float 0, .float 0, .float 0], [])) (h' := (xS b, xm_up (xm_up J 60 5 (nI (xsk T t (xsp T t p i)))) 60 5 (nI (xsk T t (xrp T t (xsp T t p i) 0) + 1)), L, xP b)) rfl rfl ?_
    refine xw_at (f' := (129, [.ref 60, .int (nI R), .int (nI c), .int (nI i), .int (nI (xlt T t (xsp T t p i))), .int (nI (xkc (xlt T t (xrp T t (xsp T t p i) 0)))), .float 0, .float 0, .float 0, .float 0], [])) (h' := (xS b, xm_up J 60 5 (nI (xrp T t (xsp T t p i) 1)), L, xP b)) rfl (show (xS b, xm_up (xm_up J 60 5 (nI (xsk T t (xsp T t p i)))) 60 5 (nI (xsk T t (xrp T t (xsp T t p i) 0) + 1)), L, xP b) = (xS b, xm_up J 60 5 (nI (xrp T t (xsp T t p i) 1)), L, xP b) from ?_) ?_
    · rw [xup_2]
      rfl
    have r1 := (xMR_fr (J := xm_up J 60 5 (nI (xrp T t (xsp T t p i) 1))) hR (by rw [xm_up_ne (Or.inr (by decide))]) (by rw [xm_up_o (by decide)]))
    refine xw_go xb_139 5 (f1 := (134, [.ref 60, .int (nI R), .int (nI c), .int (nI i), .int (nI (xlt T t (xsp T t p i))), .int (nI (xkc (xlt T t (xrp T t (xsp T t p i) 0)))), .float 0, .float 0, .float 0, .float 0], [.int ((nI R) - 1), .int 0, .ref 60])) (h1 := (xS b, xm_up J 60 5 (nI (xrp T t (xsp T t p i) 1)), L, xP b)) rfl trivial ?_
    refine xw_cong (l' := [.ref 60, .int (nI R), .int (nI c), .int (nI i), .int (nI (xlt T t (xsp T t p i))), .int (nI (xkc (xlt T t (xrp T t (xsp T t p i) 0)))), .float 0, .float 0, .float 0, .float 0]) (st' := [.int (nI (R - 1)), .int 0, .ref 60]) (h' := (xS b, xm_up J 60 5 (nI (xrp T t (xsp T t p i) 1)), L, xP b)) rfl (show ([.int ((nI R) - 1), .int 0, .ref 60] : List Value) = [.int (nI (R - 1)), .int 0, .ref 60] from ?_) rfl ?_
    · rw [xl_1, xn_sub (by omega)]
    refine xw_call xb_139 rfl rfl rfl rfl rfl (Or.inr ⟨_, _, rfl, rfl⟩) (m_digit1 (I := (xm_up J 60 5 (nI (xrp T t (xsp T t p i) 1)))) (a := (xrp T t (xsp T t p i) 1)) (lo := 0) (hi := (R - 1)) r1 (by rw [xm_up_ne (Or.inr (by decide))]; exact h6) (xm_up_at _ _ _ _) (rl 1 (by omega)) (by omega) (by omega) (by omega) rfl rfl) ?_
    rintro _ _ ⟨rfl, rfl⟩
    refine xw_at (f' := (137, [.ref 60, .int (nI R), .int (nI c), .int (nI i), .int (nI (xlt T t (xsp T t p i))), .int (nI (xkc (xlt T t (xrp T t (xsp T t p i) 0)))), .float 0, .float 0, .float 0, .float 0], [.int (nI ((xlt T t (xrp T t (xsp T t p i) 1)) - 48))])) (h' := (xS b, xm_up (xm_up J 60 5 (nI (xrp T t (xsp T t p i) 1))) 60 5 (nI (xsk T t (xrp T t (xsp T t p i) 1) + 1)), L, xP b)) rfl rfl ?_
    refine xw_at (f' := (137, [.ref 60, .int (nI R), .int (nI c), .int (nI i), .int (nI (xlt T t (xsp T t p i))), .int (nI (xkc (xlt T t (xrp T t (xsp T t p i) 0)))), .float 0, .float 0, .float 0, .float 0], [.int (nI ((xlt T t (xrp T t (xsp T t p i) 1)) - 48))])) (h' := (xS b, xm_up J 60 5 (nI (xrp T t (xsp T t p i) 2)), L, xP b)) rfl (show (xS b, xm_up (xm_up J 60 5 (nI (xrp T t (xsp T t p i) 1))) 60 5 (nI (xsk T t (xrp T t (xsp T t p i) 1) + 1)), L, xP b) = (xS b, xm_up J 60 5 (nI (xrp T t (xsp T t p i) 2)), L, xP b) from ?_) ?_
    · rw [xup_2]
      rfl
    have r2 := (xMR_fr (J := xm_up J 60 5 (nI (xrp T t (xsp T t p i) 2))) hR (by rw [xm_up_ne (Or.inr (by decide))]) (by rw [xm_up_o (by decide)]))
    refine xw_go xb_139 6 (f1 := (144, [.ref 60, .int (nI R), .int (nI c), .int (nI i), .int (nI (xlt T t (xsp T t p i))), .int (nI (xkc (xlt T t (xrp T t (xsp T t p i) 0)))), .int (nI ((xlt T t (xrp T t (xsp T t p i) 1)) - 48)), .float 0, .float 0, .float 0], [.int ((nI c) - 1), .int 0, .ref 60])) (h1 := (xS b, xm_up J 60 5 (nI (xrp T t (xsp T t p i) 2)), L, xP b)) rfl trivial ?_
    refine xw_cong (l' := [.ref 60, .int (nI R), .int (nI c), .int (nI i), .int (nI (xlt T t (xsp T t p i))), .int (nI (xkc (xlt T t (xrp T t (xsp T t p i) 0)))), .int (nI ((xlt T t (xrp T t (xsp T t p i) 1)) - 48)), .float 0, .float 0, .float 0]) (st' := [.int (nI (c - 1)), .int 0, .ref 60]) (h' := (xS b, xm_up J 60 5 (nI (xrp T t (xsp T t p i) 2)), L, xP b)) rfl (show ([.int ((nI c) - 1), .int 0, .ref 60] : List Value) = [.int (nI (c - 1)), .int 0, .ref 60] from ?_) rfl ?_
    · rw [xl_1, xn_sub (by omega)]
    refine xw_call xb_139 rfl rfl rfl rfl rfl (Or.inr ⟨_, _, rfl, rfl⟩) (m_digit1 (I := (xm_up J 60 5 (nI (xrp T t (xsp T t p i) 2)))) (a := (xrp T t (xsp T t p i) 2)) (lo := 0) (hi := (c - 1)) r2 (by rw [xm_up_ne (Or.inr (by decide))]; exact h6) (xm_up_at _ _ _ _) (rl 2 (by omega)) (by omega) (by omega) (by omega) rfl rfl) ?_
    rintro _ _ ⟨rfl, rfl⟩
    refine xw_at (f' := (147, [.ref 60, .int (nI R), .int (nI c), .int (nI i), .int (nI (xlt T t (xsp T t p i))), .int (nI (xkc (xlt T t (xrp T t (xsp T t p i) 0)))), .int (nI ((xlt T t (xrp T t (xsp T t p i) 1)) - 48)), .float 0, .float 0, .float 0], [.int (nI ((xlt T t (xrp T t (xsp T t p i) 2)) - 48))])) (h' := (xS b, xm_up (xm_up J 60 5 (nI (xrp T t (xsp T t p i) 2))) 60 5 (nI (xsk T t (xrp T t (xsp T t p i) 2) + 1)), L, xP b)) rfl rfl ?_
    refine xw_at (f' := (147, [.ref 60, .int (nI R), .int (nI c), .int (nI i), .int (nI (xlt T t (xsp T t p i))), .int (nI (xkc (xlt T t (xrp T t (xsp T t p i) 0)))), .int (nI ((xlt T t (xrp T t (xsp T t p i) 1)) - 48)), .float 0, .float 0, .float 0], [.int (nI ((xlt T t (xrp T t (xsp T t p i) 2)) - 48))])) (h' := (xS b, xm_up J 60 5 (nI (xrp T t (xsp T t p i) 3)), L, xP b)) rfl (show (xS b, xm_up (xm_up J 60 5 (nI (xrp T t (xsp T t p i) 2))) 60 5 (nI (xsk T t (xrp T t (xsp T t p i) 2) + 1)), L, xP b) = (xS b, xm_up J 60 5 (nI (xrp T t (xsp T t p i) 3)), L, xP b) from ?_) ?_
    · rw [xup_2]
      rfl
    have r3 := (xMR_fr (J := xm_up J 60 5 (nI (xrp T t (xsp T t p i) 3))) hR (by rw [xm_up_ne (Or.inr (by decide))]) (by rw [xm_up_o (by decide)]))
    refine xw_go xb_139 4 (f1 := (152, [.ref 60, .int (nI R), .int (nI c), .int (nI i), .int (nI (xlt T t (xsp T t p i))), .int (nI (xkc (xlt T t (xrp T t (xsp T t p i) 0)))), .int (nI ((xlt T t (xrp T t (xsp T t p i) 1)) - 48)), .int (nI ((xlt T t (xrp T t (xsp T t p i) 2)) - 48)), .float 0, .float 0], [.int 4, .int 0, .ref 60])) (h1 := (xS b, xm_up J 60 5 (nI (xrp T t (xsp T t p i) 3)), L, xP b)) rfl trivial ?_
    refine xw_call xb_139 rfl rfl rfl rfl rfl (Or.inr ⟨_, _, rfl, rfl⟩) (m_digit1 (I := (xm_up J 60 5 (nI (xrp T t (xsp T t p i) 3)))) (a := (xrp T t (xsp T t p i) 3)) (lo := 0) (hi := 4) r3 (by rw [xm_up_ne (Or.inr (by decide))]; exact h6) (xm_up_at _ _ _ _) (rl 3 (by omega)) (by omega) (by omega) (by omega) rfl rfl) ?_
    rintro _ _ ⟨rfl, rfl⟩
    refine xw_at (f' := (155, [.ref 60, .int (nI R), .int (nI c), .int (nI i), .int (nI (xlt T t (xsp T t p i))), .int (nI (xkc (xlt T t (xrp T t (xsp T t p i) 0)))), .int (nI ((xlt T t (xrp T t (xsp T t p i) 1)) - 48)), .int (nI ((xlt T t (xrp T t (xsp T t p i) 2)) - 48)), .float 0, .float 0], [.int (nI ((xlt T t (xrp T t (xsp T t p i) 3)) - 48))])) (h' := (xS b, xm_up (xm_up J 60 5 (nI (xrp T t (xsp T t p i) 3))) 60 5 (nI (xsk T t (xrp T t (xsp T t p i) 3) + 1)), L, xP b)) rfl rfl ?_
    refine xw_at (f' := (155, [.ref 60, .int (nI R), .int (nI c), .int (nI i), .int (nI (xlt T t (xsp T t p i))), .int (nI (xkc (xlt T t (xrp T t (xsp T t p i) 0)))), .int (nI ((xlt T t (xrp T t (xsp T t p i) 1)) - 48)), .int (nI ((xlt T t (xrp T t (xsp T t p i) 2)) - 48)), .float 0, .float 0], [.int (nI ((xlt T t (xrp T t (xsp T t p i) 3)) - 48))])) (h' := (xS b, xm_up J 60 5 (nI (xrp T t (xsp T t p i) 4)), L, xP b)) rfl (show (xS b, xm_up (xm_up J 60 5 (nI (xrp T t (xsp T t p i) 3))) 60 5 (nI (xsk T t (xrp T t (xsp T t p i) 3) + 1)), L, xP b) = (xS b, xm_up J 60 5 (nI (xrp T t (xsp T t p i) 4)), L, xP b) from ?_) ?_
    · rw [xup_2]
      rfl
    have r4 := (xMR_fr (J := xm_up J 60 5 (nI (xrp T t (xsp T t p i) 4))) hR (by rw [xm_up_ne (Or.inr (by decide))]) (by rw [xm_up_o (by decide)]))
    refine xw_go xb_139 4 (f1 := (161, [.ref 60, .int (nI R), .int (nI c), .int (nI i), .int (nI (xlt T t (xsp T t p i))), .int (nI (xkc (xlt T t (xrp T t (xsp T t p i) 0)))), .int (nI ((xlt T t (xrp T t (xsp T t p i) 1)) - 48)), .int (nI ((xlt T t (xrp T t (xsp T t p i) 2)) - 48)), .int (nI ((xlt T t (xrp T t (xsp T t p i) 3)) - 48)), .float 0], [.int 9, .int 1, .ref 60])) (h1 := (xS b, xm_up J 60 5 (nI (xrp T t (xsp T t p i) 4)), L, xP b)) rfl trivial ?_
    refine xw_call xb_139 rfl rfl rfl rfl rfl (Or.inr ⟨_, _, rfl, rfl⟩) (m_digit0 (I := (xm_up J 60 5 (nI (xrp T t (xsp T t p i) 4)))) (a := (xrp T t (xsp T t p i) 4)) (lo := 1) (hi := 9) r4 (by rw [xm_up_ne (Or.inr (by decide))]; exact h6) (xm_up_at _ _ _ _) (rl 4 (by omega)) (by omega) (by omega) (by omega) rfl rfl) ?_
    rintro _ _ ⟨rfl, rfl⟩
    refine xw_at (f' := (164, [.ref 60, .int (nI R), .int (nI c), .int (nI i), .int (nI (xlt T t (xsp T t p i))), .int (nI (xkc (xlt T t (xrp T t (xsp T t p i) 0)))), .int (nI ((xlt T t (xrp T t (xsp T t p i) 1)) - 48)), .int (nI ((xlt T t (xrp T t (xsp T t p i) 2)) - 48)), .int (nI ((xlt T t (xrp T t (xsp T t p i) 3)) - 48)), .float 0], [.int (nI (xlt T t (xrp T t (xsp T t p i) 4)) - 48)])) (h' := (xS b, xm_up (xm_up (xm_up J 60 5 (nI (xrp T t (xsp T t p i) 4))) 60 5 (nI (xsk T t (xrp T t (xsp T t p i) 4)))) 60 6 1, L, xP b)) rfl rfl ?_
    refine xw_at (f' := (164, [.ref 60, .int (nI R), .int (nI c), .int (nI i), .int (nI (xlt T t (xsp T t p i))), .int (nI (xkc (xlt T t (xrp T t (xsp T t p i) 0)))), .int (nI ((xlt T t (xrp T t (xsp T t p i) 1)) - 48)), .int (nI ((xlt T t (xrp T t (xsp T t p i) 2)) - 48)), .int (nI ((xlt T t (xrp T t (xsp T t p i) 3)) - 48)), .float 0], [.int (nI (xlt T t (xrp T t (xsp T t p i) 4)) - 48)])) (h' := (xS b, xm_up (xm_up J 60 5 (nI (xsk T t (xrp T t (xsp T t p i) 4)))) 60 6 1, L, xP b)) rfl (show (xS b, xm_up (xm_up (xm_up J 60 5 (nI (xrp T t (xsp T t p i) 4))) 60 5 (nI (xsk T t (xrp T t (xsp T t p i) 4)))) 60 6 1, L, xP b) = (xS b, xm_up (xm_up J 60 5 (nI (xsk T t (xrp T t (xsp T t p i) 4)))) 60 6 1, L, xP b) from ?_) ?_
    · rw [xup_2]
    refine xw_go xb_139 3 (f1 := (170, [.ref 60, .int (nI R), .int (nI c), .int (nI i), .int (nI (xlt T t (xsp T t p i))), .int (nI (xkc (xlt T t (xrp T t (xsp T t p i) 0)))), .int (nI ((xlt T t (xrp T t (xsp T t p i) 1)) - 48)), .int (nI ((xlt T t (xrp T t (xsp T t p i) 2)) - 48)), .int (nI ((xlt T t (xrp T t (xsp T t p i) 3)) - 48)), .int (nI (xlt T t (xrp T t (xsp T t p i) 4)) - 48)], [.int ((xm_up (xm_up J 60 5 (nI (xsk T t (xrp T t (xsp T t p i) 4)))) 60 6 1) 60 6)])) (h1 := (xS b, xm_up (xm_up J 60 5 (nI (xsk T t (xrp T t (xsp T t p i) 4)))) 60 6 1, L, xP b)) rfl ⟨rfl, trivial⟩ ?_
    refine xw_cong (l' := [.ref 60, .int (nI R), .int (nI c), .int (nI i), .int (nI (xlt T t (xsp T t p i))), .int (nI (xkc (xlt T t (xrp T t (xsp T t p i) 0)))), .int (nI ((xlt T t (xrp T t (xsp T t p i) 1)) - 48)), .int (nI ((xlt T t (xrp T t (xsp T t p i) 2)) - 48)), .int (nI ((xlt T t (xrp T t (xsp T t p i) 3)) - 48)), .int (nI (xlt T t (xrp T t (xsp T t p i) 4)) - 48)]) (st' := [.int 1]) (h' := (xS b, xm_up (xm_up J 60 5 (nI (xsk T t (xrp T t (xsp T t p i) 4)))) 60 6 1, L, xP b)) rfl (show ([.int ((xm_up (xm_up J 60 5 (nI (xsk T t (xrp T t (xsp T t p i) 4)))) 60 6 1) 60 6)] : List Value) = [.int 1] from ?_) rfl ?_
    · rw [xm_up_at]
    refine xw_go xb_139 2 (f1 := (227, [.ref 60, .int (nI R), .int (nI c), .int ((nI i) + 1), .int (nI (xlt T t (xsp T t p i))), .int (nI (xkc (xlt T t (xrp T t (xsp T t p i) 0)))), .int (nI ((xlt T t (xrp T t (xsp T t p i) 1)) - 48)), .int (nI ((xlt T t (xrp T t (xsp T t p i) 2)) - 48)), .int (nI ((xlt T t (xrp T t (xsp T t p i) 3)) - 48)), .int (nI (xlt T t (xrp T t (xsp T t p i) 4)) - 48)], [])) (h1 := (xS b, xm_up (xm_up J 60 5 (nI (xsk T t (xrp T t (xsp T t p i) 4)))) 60 6 1, L, xP b)) rfl trivial ?_
    refine xw_cong (l' := [.ref 60, .int (nI R), .int (nI c), .int (nI (i + 1)), .int (nI (xlt T t (xsp T t p i))), .int (nI (xkc (xlt T t (xrp T t (xsp T t p i) 0)))), .int (nI ((xlt T t (xrp T t (xsp T t p i) 1)) - 48)), .int (nI ((xlt T t (xrp T t (xsp T t p i) 2)) - 48)), .int (nI ((xlt T t (xrp T t (xsp T t p i) 3)) - 48)), .int (nI (xlt T t (xrp T t (xsp T t p i) 4)) - 48)]) (st' := []) (h' := (xS b, xm_up (xm_up J 60 5 (nI (xsk T t (xrp T t (xsp T t p i) 4)))) 60 6 1, L, xP b)) (show ([.ref 60, .int (nI R), .int (nI c), .int ((nI i) + 1), .int (nI (xlt T t (xsp T t p i))), .int (nI (xkc (xlt T t (xrp T t (xsp T t p i) 0)))), .int (nI ((xlt T t (xrp T t (xsp T t p i) 1)) - 48)), .int (nI ((xlt T t (xrp T t (xsp T t p i) 2)) - 48)), .int (nI ((xlt T t (xrp T t (xsp T t p i) 3)) - 48)), .int (nI (xlt T t (xrp T t (xsp T t p i) 4)) - 48)] : List Value) = [.ref 60, .int (nI R), .int (nI c), .int (nI (i + 1)), .int (nI (xlt T t (xsp T t p i))), .int (nI (xkc (xlt T t (xrp T t (xsp T t p i) 0)))), .int (nI ((xlt T t (xrp T t (xsp T t p i) 1)) - 48)), .int (nI ((xlt T t (xrp T t (xsp T t p i) 2)) - 48)), .int (nI ((xlt T t (xrp T t (xsp T t p i) 3)) - 48)), .int (nI (xlt T t (xrp T t (xsp T t p i) 4)) - 48)] from ?_) rfl rfl ?_
    · rw [nI_1]
    refine xw_go xb_139 1 (f1 := (2, [.ref 60, .int (nI R), .int (nI c), .int (nI (i + 1)), .int (nI (xlt T t (xsp T t p i))), .int (nI (xkc (xlt T t (xrp T t (xsp T t p i) 0)))), .int (nI ((xlt T t (xrp T t (xsp T t p i) 1)) - 48)), .int (nI ((xlt T t (xrp T t (xsp T t p i) 2)) - 48)), .int (nI ((xlt T t (xrp T t (xsp T t p i) 3)) - 48)), .int (nI (xlt T t (xrp T t (xsp T t p i) 4)) - 48)], [])) (h1 := (xS b, xm_up (xm_up J 60 5 (nI (xsk T t (xrp T t (xsp T t p i) 4)))) 60 6 1, L, xP b)) rfl trivial ?_
    refine xw_fg (l0 := [.ref 60, .int (nI R), .int (nI c), .int (nI (i + 1)), .float 0, .float 0, .float 0, .float 0, .float 0, .float 0]) ⟨Or.inr rfl, Or.inr rfl, Or.inr rfl, Or.inr rfl, Or.inl rfl, Or.inl rfl, Or.inl rfl, Or.inl rfl, Or.inl rfl, Or.inl rfl, trivial⟩ ?_
    refine xw_go xb_139 2 (f1 := (6, [.ref 60, .int (nI R), .int (nI c), .int (nI (i + 1)), .float 0, .float 0, .float 0, .float 0, .float 0, .float 0], [.int ((xm_up (xm_up J 60 5 (nI (xsk T t (xrp T t (xsp T t p i) 4)))) 60 6 1) 60 6)])) (h1 := (xS b, xm_up (xm_up J 60 5 (nI (xsk T t (xrp T t (xsp T t p i) 4)))) 60 6 1, L, xP b)) rfl ⟨rfl, trivial⟩ ?_
    refine xw_cong (l' := [.ref 60, .int (nI R), .int (nI c), .int (nI (i + 1)), .float 0, .float 0, .float 0, .float 0, .float 0, .float 0]) (st' := [.int 1]) (h' := (xS b, xm_up (xm_up J 60 5 (nI (xsk T t (xrp T t (xsp T t p i) 4)))) 60 6 1, L, xP b)) rfl (show ([.int ((xm_up (xm_up J 60 5 (nI (xsk T t (xrp T t (xsp T t p i) 4)))) 60 6 1) 60 6)] : List Value) = [.int 1] from ?_) rfl ?_
    · rw [xm_up_at]
    refine xw_go xb_139 1 (f1 := (230, [.ref 60, .int (nI R), .int (nI c), .int (nI (i + 1)), .float 0, .float 0, .float 0, .float 0, .float 0, .float 0], [])) (h1 := (xS b, xm_up (xm_up J 60 5 (nI (xsk T t (xrp T t (xsp T t p i) 4)))) 60 6 1, L, xP b)) rfl trivial ?_
    exact k _ (fun q h1 h2 => by rw [xm_up_o h1, xm_up_o h1]) (fun j h1 h2 => by rw [xm_up_ne (Or.inr h2), xm_up_ne (Or.inr h1)]) (by rw [xm_up_ne (Or.inr (by decide)), xm_up_at] <;> rfl) (xm_up_at _ _ _ _)
theorem m_sprF {d : Nat} {b : Bool} {J : Nat → Nat → Int32} {L : Nat → Nat → Int64} {Q : Option Value → xm_H → Prop} {T : Nat → Nat} {t : Nat} (hR : xMR T t J) {R c p i : Nat} (h6 : J 60 6 = 0) (h5 : J 60 5 = nI (xsp T t p i)) (hs : xsp T t p i ≤ t) (bR : 2 ≤ R ∧ R ≤ 8) (bc : 2 ≤ c ∧ c ≤ 8) (hi : i < 5) (hm : xsm T t R c p i < 5) (k : ∀ K : Nat → Nat → Int32, (∀ q, q ≠ 60 → q ≠ 66 → K q = J q) → (∀ j, j ≠ 5 → j ≠ 6 → K 60 j = J 60 j) → K 60 5 = nI (xsk T t (xrp T t (xsp T t p i) (xsm T t R c p i))) → K 60 6 = 1 → xm_W (d + 2) 139 (230, [.ref 60, .int (nI R), .int (nI c), .int (nI (i + 1)), .float 0, .float 0, .float 0, .float 0, .float 0, .float 0], []) (xS b, K, L, xP b) Q) : xm_W (d + 2) 139 (40, [.ref 60, .int (nI R), .int (nI c), .int (nI i), .float 0, .float 0, .float 0, .float 0, .float 0, .float 0], []) (xS b, J, L, xP b) Q := by
  rcases (show xsm T t R c p i = 0 ∨ xsm T t R c p i = 1 ∨ xsm T t R c p i = 2 ∨ xsm T t R c p i = 3 ∨ xsm T t R c p i = 4 by omega) with e | e | e | e | e
  · exact m_spr0 hR h6 h5 hs bR bc hi e (by rw [e] at k; exact k)
  · exact m_spr1 hR h6 h5 hs bR bc hi e (by rw [e] at k; exact k)
  · exact m_spr2 hR h6 h5 hs bR bc hi e (by rw [e] at k; exact k)
  · exact m_spr3 hR h6 h5 hs bR bc hi e (by rw [e] at k; exact k)
  · exact m_spr4 hR h6 h5 hs bR bc hi e (by rw [e] at k; exact k)
theorem m_sprsT {d : Nat} {b : Bool} {I : Nat → Nat → Int32} {L : Nat → Nat → Int64} {T : Nat → Nat} {t : Nat} (hR : xMR T t I) {R c p : Nat} (h6 : I 60 6 = 0) (h5 : I 60 5 = nI p) (hp : p ≤ t) (bR : 2 ≤ R ∧ R ≤ 8) (bc : 2 ≤ c ∧ c ≤ 8) {K0 : Nat} (hK0 : K0 ≤ 4) (hc : ∀ j, j < K0 → xzc T t R c p j) (hm : xsm T t R c p K0 = 5) (hl : xlt T t (xrp T t (xsp T t p K0) 5) ≠ 44) {x1 : Int32} (e_x1 : x1 = nI R) {x2 : Int32} (e_x2 : x2 = nI c) : xm_Z (d + 3) 139 [.ref 60, .int x1, .int x2] (xS b, I, L, xP b) (fun rz hz => rz = some (.int (nI (K0 + 1))) ∧ ∃ I', hz = (xS b, I', L, xP b) ∧ (∀ q, q ≠ 60 → q ≠ 66 → I' q = I q) ∧ (∀ j, j ≠ 5 → I' 60 j = I 60 j) ∧ I' 60 5 = nI (xsk T t (xrp T t (xsp T t p K0) 5)) ∧ ∀ j, j < K0 + 1 → ∀ f, f < 4 → I' 66 (4 * j + f) = nI (xzd T t c p j f)) := by
  subst e_x1
  subst e_x2
  refine xw_S xb_139 (l := [.ref 60, .int (nI R), .int (nI c), .float 0, .float 0, .float 0, .float 0, .float 0, .float 0, .float 0]) (Nat.le_of_ble_eq_true rfl) rfl ?_
  refine xw_go xb_139 4 (f1 := (6, [.ref 60, .int (nI R), .int (nI c), .int 0, .float 0, .float 0, .float 0, .float 0, .float 0, .float 0], [.int (I 60 6)])) (h1 := (xS b, I, L, xP b)) rfl ⟨rfl, trivial⟩ ?_
  refine xw_cong (l' := [.ref 60, .int (nI R), .int (nI c), .int 0, .float 0, .float 0, .float 0, .float 0, .float 0, .float 0]) (st' := [.int 0]) (h' := (xS b, I, L, xP b)) rfl (show ([.int (I 60 6)] : List Value) = [.int 0] from ?_) rfl ?_
  · rw [h6]
  refine xw_go xb_139 5 (f1 := (40, [.ref 60, .int (nI R), .int (nI c), .int 0, .float 0, .float 0, .float 0, .float 0, .float 0, .float 0], [])) (h1 := (xS b, I, L, xP b)) rfl trivial ?_
  refine xw_cong (l' := [.ref 60, .int (nI R), .int (nI c), .int (nI 0), .float 0, .float 0, .float 0, .float 0, .float 0, .float 0]) (st' := []) (h' := (xS b, I, L, xP b)) (show ([.ref 60, .int (nI R), .int (nI c), .int 0, .float 0, .float 0, .float 0, .float 0, .float 0, .float 0] : List Value) = [.ref 60, .int (nI R), .int (nI c), .int (nI 0), .float 0, .float 0, .float 0, .float 0, .float 0, .float 0] from ?_) rfl rfl ?_
  · rfl
  refine xw_loopP K0 (fun i => (40, [.ref 60, .int (nI R), .int (nI c), .int (nI i), .float 0, .float 0, .float 0, .float 0, .float 0, .float 0], [])) (fun i h => ∃ J, h = (xS b, J, L, xP b) ∧ (∀ q, q ≠ 60 → q ≠ 66 → J q = I q) ∧ (∀ j, j ≠ 5 → J 60 j = I 60 j) ∧ J 60 5 = nI (xsp T t p i) ∧ ∀ j, j < i → ∀ f, f < 4 → J 66 (4 * j + f) = nI (xzd T t c p j f)) (fun i h hk hV ih => ?_) (fun h hV => ?_) 0 _ (Nat.zero_le _) ⟨I, rfl, fun _ _ _ => rfl, fun _ _ => rfl, h5, fun j hj => absurd hj (Nat.not_lt_zero j)⟩
  · obtain ⟨J, rfl, j1, j2, j3, j4⟩ := hV
    have r1 : xMR T t J := xMR_fr hR (j2 4 (by decide)) (j1 64 (by decide) (by decide))
    have g6 : J 60 6 = 0 := by rw [j2 6 (by decide)]; exact h6
    obtain ⟨z1, z2, z3⟩ := hc i hk
    have sl := xsp_le hp i (fun j hj => hc j (by omega))
    have rl : (xrp T t (xsp T t p i) 5) ≤ t := xr5_le (R := R) (c := c) sl (fun j hj => xld_t 5 j (by have q := z1; unfold xsm at q; rw [q]; exact hj)) 5 (Nat.le_refl 5)
    refine m_sprT r1 g6 j3 sl bR bc (by omega) z1 (fun K k1 k2 k3 k4 k5 => ?_)
    refine xw_go xb_139 2 (f1 := (6, [.ref 60, .int (nI R), .int (nI c), .int (nI (i + 1)), .float 0, .float 0, .float 0, .float 0, .float 0, .float 0], [.int (K 60 6)])) (h1 := (xS b, K, L, xP b)) rfl ⟨rfl, trivial⟩ ?_
    refine xw_cong (l' := [.ref 60, .int (nI R), .int (nI c), .int (nI (i + 1)), .float 0, .float 0, .float 0, .float 0, .float 0, .float 0]) (st' := [.int 0]) (h' := (xS b, K, L, xP b)) rfl (show ([.int (K 60 6)] : List Value) = [.int 0] from ?_) rfl ?_
    · rw [k2 6 (by decide), g6]
    refine xw_go xb_139 3 (f1 := (if (nI (i + 1)) = 0 then 22 else 13, [.ref 60, .int (nI R), .int (nI c), .int (nI (i + 1)), .float 0, .float 0, .float 0, .float 0, .float 0, .float 0], [])) (h1 := (xS b, K, L, xP b)) rfl trivial ?_
    refine xw_if (fun c_10 => ?_) (fun c_10 => ?_)
    · skip
      exfalso
      rw [xl_0, nI_eq (by omega) (by omega)] at c_10
      omega
    · skip
      refine xw_go xb_139 1 (f1 := (14, [.ref 60, .int (nI R), .int (nI c), .int (nI (i + 1)), .float 0, .float 0, .float 0, .float 0, .float 0, .float 0], [.ref 60])) (h1 := (xS b, K, L, xP b)) rfl trivial ?_
      refine xw_call xb_139 rfl rfl rfl rfl rfl (Or.inr ⟨_, _, rfl, rfl⟩) (m_here (I := K) (a := (xrp T t (xsp T t p i) 5)) (xMR_fr r1 (k2 4 (by decide)) (k1 64 (by decide) (by decide))) k3 rl) ?_
      rintro _ _ ⟨rfl, rfl⟩
      refine xw_at (f' := (17, [.ref 60, .int (nI R), .int (nI c), .int (nI (i + 1)), .float 0, .float 0, .float 0, .float 0, .float 0, .float 0], [.int (nI (xlt T t (xrp T t (xsp T t p i) 5)))])) (h' := (xS b, xm_up K 60 5 (nI (xsk T t (xrp T t (xsp T t p i) 5))), L, xP b)) rfl rfl ?_
      refine xw_at (f' := (17, [.ref 60, .int (nI R), .int (nI c), .int (nI (i + 1)), .float 0, .float 0, .float 0, .float 0, .float 0, .float 0], [.int (nI (xlt T t (xrp T t (xsp T t p i) 5)))])) (h' := (xS b, xm_up K 60 5 (nI (xsk T t (xrp T t (xsp T t p i) 5))), L, xP b)) rfl (show (xS b, xm_up K 60 5 (nI (xsk T t (xrp T t (xsp T t p i) 5))), L, xP b) = (xS b, xm_up K 60 5 (nI (xsk T t (xrp T t (xsp T t p i) 5))), L, xP b) from ?_) ?_
      · rfl
      refine xw_go xb_139 2 (f1 := (if ¬ (nI (xlt T t (xrp T t (xsp T t p i) 5))) = 44 then 230 else 22, [.ref 60, .int (nI R), .int (nI c), .int (nI (i + 1)), .float 0, .float 0, .float 0, .float 0, .float 0, .float 0], [])) (h1 := (xS b, xm_up K 60 5 (nI (xsk T t (xrp T t (xsp T t p i) 5))), L, xP b)) rfl trivial ?_
      refine xw_if (fun c_19 => ?_) (fun c_19 => ?_)
      · skip
        exfalso
        rw [xl_44, nI_eq (by omega) (by omega)] at c_19
        exact c_19 z2
      · skip
        refine xw_go xb_139 2 (f1 := (if (nI (i + 1)) ≤ 0 then 40 else 26, [.ref 60, .int (nI R), .int (nI c), .int (nI (i + 1)), .float 0, .float 0, .float 0, .float 0, .float 0, .float 0], [])) (h1 := (xS b, xm_up K 60 5 (nI (xsk T t (xrp T t (xsp T t p i) 5))), L, xP b)) rfl trivial ?_
        refine xw_if (fun c_23 => ?_) (fun c_23 => ?_)
        · skip
          exfalso
          rw [xl_0, nI_leI (by omega) (by omega)] at c_23
          omega
        · skip
          refine xw_go xb_139 4 (f1 := (if 5 ≤ (nI (i + 1)) then 36 else 32, [.ref 60, .int (nI R), .int (nI c), .int (nI (i + 1)), .float 0, .float 0, .float 0, .float 0, .float 0, .float 0], [.ref 60])) (h1 := (xS b, xm_up K 60 5 (nI (xsk T t (xrp T t (xsp T t p i) 5))), L, xP b)) rfl trivial ?_
          refine xw_if (fun c_29 => ?_) (fun c_29 => ?_)
          · skip
            exfalso
            rw [xl_5, nI_leI (by omega) (by omega)] at c_29
            omega
          · skip
            refine xw_go xb_139 2 (f1 := (37, [.ref 60, .int (nI R), .int (nI c), .int (nI (i + 1)), .float 0, .float 0, .float 0, .float 0, .float 0, .float 0], [.int 1, .ref 60])) (h1 := (xS b, xm_up K 60 5 (nI (xsk T t (xrp T t (xsp T t p i) 5))), L, xP b)) rfl trivial ?_
            refine xw_call xb_139 rfl rfl rfl rfl rfl (Or.inr ⟨_, _, rfl, rfl⟩) (m_must1 (I := (xm_up K 60 5 (nI (xsk T t (xrp T t (xsp T t p i) 5))))) (a := xsk T t (xrp T t (xsp T t p i) 5)) (by rw [xm_up_ne (Or.inr (by decide)), k2 6 (by decide)]; exact g6) (xm_up_at _ _ _ _) rfl) ?_
            rintro _ _ ⟨rfl, rfl⟩
            refine xw_at (f' := (40, [.ref 60, .int (nI R), .int (nI c), .int (nI (i + 1)), .float 0, .float 0, .float 0, .float 0, .float 0, .float 0], [])) (h' := (xS b, xm_up (xm_up K 60 5 (nI (xsk T t (xrp T t (xsp T t p i) 5)))) 60 5 (nI (xsk T t (xrp T t (xsp T t p i) 5) + 1)), L, xP b)) rfl rfl ?_
            refine xw_at (f' := (40, [.ref 60, .int (nI R), .int (nI c), .int (nI (i + 1)), .float 0, .float 0, .float 0, .float 0, .float 0, .float 0], [])) (h' := (xS b, xm_up K 60 5 (nI (xsp T t p (i + 1))), L, xP b)) rfl (by rw [xup_2]; rfl) ?_
            refine ih _ ⟨_, rfl, fun q h1 h2 => ?_, fun j h1 => ?_, ?_, fun j hj f hf => ?_⟩
            · rw [xm_up_o h1, k1 q h1 h2]
              exact j1 q h1 h2
            · rw [xm_up_ne (Or.inr h1), k2 j h1]
              exact j2 j h1
            · exact xm_up_at _ _ _ _
            · rw [xm_up_o (by decide)]
              by_cases e : j = i
              · subst e
                exact k4 f hf
              · rw [k5 _ (by omega)]
                exact j4 j (by omega) f hf
  · obtain ⟨J, rfl, j1, j2, j3, j4⟩ := hV
    have r1 : xMR T t J := xMR_fr hR (j2 4 (by decide)) (j1 64 (by decide) (by decide))
    have g6 : J 60 6 = 0 := by rw [j2 6 (by decide)]; exact h6
    have sl := xsp_le hp K0 hc
    have rl : (xrp T t (xsp T t p K0) 5) ≤ t := xr5_le (R := R) (c := c) sl (fun j hj => xld_t 5 j (by have q := hm; unfold xsm at q; rw [q]; exact hj)) 5 (Nat.le_refl 5)
    have l126 : xlt T t (xrp T t (xsp T t p K0) 5) ≤ 126 := xlt_le hR.2.1
    refine m_sprT r1 g6 j3 sl bR bc (by omega) hm (fun K k1 k2 k3 k4 k5 => ?_)
    refine xw_go xb_139 2 (f1 := (6, [.ref 60, .int (nI R), .int (nI c), .int (nI (K0 + 1)), .float 0, .float 0, .float 0, .float 0, .float 0, .float 0], [.int (K 60 6)])) (h1 := (xS b, K, L, xP b)) rfl ⟨rfl, trivial⟩ ?_
    refine xw_cong (l' := [.ref 60, .int (nI R), .int (nI c), .int (nI (K0 + 1)), .float 0, .float 0, .float 0, .float 0, .float 0, .float 0]) (st' := [.int 0]) (h' := (xS b, K, L, xP b)) rfl (show ([.int (K 60 6)] : List Value) = [.int 0] from ?_) rfl ?_
    · rw [k2 6 (by decide), g6]
    refine xw_go xb_139 3 (f1 := (if (nI (K0 + 1)) = 0 then 22 else 13, [.ref 60, .int (nI R), .int (nI c), .int (nI (K0 + 1)), .float 0, .float 0, .float 0, .float 0, .float 0, .float 0], [])) (h1 := (xS b, K, L, xP b)) rfl trivial ?_
    refine xw_if (fun c_10 => ?_) (fun c_10 => ?_)
    · skip
      exfalso
      rw [xl_0, nI_eq (by omega) (by omega)] at c_10
      omega
    · skip
      refine xw_go xb_139 1 (f1 := (14, [.ref 60, .int (nI R), .int (nI c), .int (nI (K0 + 1)), .float 0, .float 0, .float 0, .float 0, .float 0, .float 0], [.ref 60])) (h1 := (xS b, K, L, xP b)) rfl trivial ?_
      refine xw_call xb_139 rfl rfl rfl rfl rfl (Or.inr ⟨_, _, rfl, rfl⟩) (m_here (I := K) (a := (xrp T t (xsp T t p K0) 5)) (xMR_fr r1 (k2 4 (by decide)) (k1 64 (by decide) (by decide))) k3 rl) ?_
      rintro _ _ ⟨rfl, rfl⟩
      refine xw_at (f' := (17, [.ref 60, .int (nI R), .int (nI c), .int (nI (K0 + 1)), .float 0, .float 0, .float 0, .float 0, .float 0, .float 0], [.int (nI (xlt T t (xrp T t (xsp T t p K0) 5)))])) (h' := (xS b, xm_up K 60 5 (nI (xsk T t (xrp T t (xsp T t p K0) 5))), L, xP b)) rfl rfl ?_
      refine xw_at (f' := (17, [.ref 60, .int (nI R), .int (nI c), .int (nI (K0 + 1)), .float 0, .float 0, .float 0, .float 0, .float 0, .float 0], [.int (nI (xlt T t (xrp T t (xsp T t p K0) 5)))])) (h' := (xS b, xm_up K 60 5 (nI (xsk T t (xrp T t (xsp T t p K0) 5))), L, xP b)) rfl (show (xS b, xm_up K 60 5 (nI (xsk T t (xrp T t (xsp T t p K0) 5))), L, xP b) = (xS b, xm_up K 60 5 (nI (xsk T t (xrp T t (xsp T t p K0) 5))), L, xP b) from ?_) ?_
      · rfl
      refine xw_go xb_139 2 (f1 := (if ¬ (nI (xlt T t (xrp T t (xsp T t p K0) 5))) = 44 then 230 else 22, [.ref 60, .int (nI R), .int (nI c), .int (nI (K0 + 1)), .float 0, .float 0, .float 0, .float 0, .float 0, .float 0], [])) (h1 := (xS b, xm_up K 60 5 (nI (xsk T t (xrp T t (xsp T t p K0) 5))), L, xP b)) rfl trivial ?_
      refine xw_if (fun c_19 => ?_) (fun c_19 => ?_)
      · skip
        refine xw_go xb_139 1 (f1 := (231, [.ref 60, .int (nI R), .int (nI c), .int (nI (K0 + 1)), .float 0, .float 0, .float 0, .float 0, .float 0, .float 0], [.int (nI (K0 + 1))])) (h1 := (xS b, xm_up K 60 5 (nI (xsk T t (xrp T t (xsp T t p K0) 5))), L, xP b)) rfl trivial ?_
        refine xw_ret xb_139 rfl rfl trivial ?_
        refine ⟨rfl, _, rfl, fun q h1 h2 => ?_, fun j h1 => ?_, ?_, fun j hj f hf => ?_⟩
        · rw [xm_up_o h1, k1 q h1 h2]
          exact j1 q h1 h2
        · rw [xm_up_ne (Or.inr h1), k2 j h1]
          exact j2 j h1
        · exact xm_up_at _ _ _ _
        · rw [xm_up_o (by decide)]
          by_cases e : j = K0
          · subst e
            exact k4 f hf
          · rw [k5 _ (by omega)]
            exact j4 j (by omega) f hf
      · skip
        exfalso
        rw [Classical.not_not, xl_44, nI_eq (by omega) (by omega)] at c_19
        exact hl c_19

theorem m_sprs5 {d : Nat} {b : Bool} {I : Nat → Nat → Int32} {L : Nat → Nat → Int64} {T : Nat → Nat} {t : Nat} (hR : xMR T t I) {R c p : Nat} (h6 : I 60 6 = 0) (h5 : I 60 5 = nI p) (hp : p ≤ t) (bR : 2 ≤ R ∧ R ≤ 8) (bc : 2 ≤ c ∧ c ≤ 8) {K0 : Nat} (hK0 : K0 ≤ 4) (hc : ∀ j, j < K0 → xzc T t R c p j) (h4 : K0 = 4) (hm : xsm T t R c p K0 = 5) (hl : xlt T t (xrp T t (xsp T t p K0) 5) = 44) {x1 : Int32} (e_x1 : x1 = nI R) {x2 : Int32} (e_x2 : x2 = nI c) : xm_Z (d + 3) 139 [.ref 60, .int x1, .int x2] (xS b, I, L, xP b) (fun rz hz => ∃ v, rz = some (.int v) ∧ ∃ I', hz = (xS b, I', L, xP b) ∧ (∀ q, q ≠ 60 → q ≠ 66 → I' q = I q) ∧ (∀ j, j ≠ 5 → j ≠ 6 → I' 60 j = I 60 j) ∧ I' 60 5 = nI (xsk T t (xrp T t (xsp T t p K0) (xsm T t R c p K0))) ∧ I' 60 6 = 1) := by
  subst e_x1
  subst e_x2
  refine xw_S xb_139 (l := [.ref 60, .int (nI R), .int (nI c), .float 0, .float 0, .float 0, .float 0, .float 0, .float 0, .float 0]) (Nat.le_of_ble_eq_true rfl) rfl ?_
  refine xw_go xb_139 4 (f1 := (6, [.ref 60, .int (nI R), .int (nI c), .int 0, .float 0, .float 0, .float 0, .float 0, .float 0, .float 0], [.int (I 60 6)])) (h1 := (xS b, I, L, xP b)) rfl ⟨rfl, trivial⟩ ?_
  refine xw_cong (l' := [.ref 60, .int (nI R), .int (nI c), .int 0, .float 0, .float 0, .float 0, .float 0, .float 0, .float 0]) (st' := [.int 0]) (h' := (xS b, I, L, xP b)) rfl (show ([.int (I 60 6)] : List Value) = [.int 0] from ?_) rfl ?_
  · rw [h6]
  refine xw_go xb_139 5 (f1 := (40, [.ref 60, .int (nI R), .int (nI c), .int 0, .float 0, .float 0, .float 0, .float 0, .float 0, .float 0], [])) (h1 := (xS b, I, L, xP b)) rfl trivial ?_
  refine xw_cong (l' := [.ref 60, .int (nI R), .int (nI c), .int (nI 0), .float 0, .float 0, .float 0, .float 0, .float 0, .float 0]) (st' := []) (h' := (xS b, I, L, xP b)) (show ([.ref 60, .int (nI R), .int (nI c), .int 0, .float 0, .float 0, .float 0, .float 0, .float 0, .float 0] : List Value) = [.ref 60, .int (nI R), .int (nI c), .int (nI 0), .float 0, .float 0, .float 0, .float 0, .float 0, .float 0] from ?_) rfl rfl ?_
  · rfl
  refine xw_loopP K0 (fun i => (40, [.ref 60, .int (nI R), .int (nI c), .int (nI i), .float 0, .float 0, .float 0, .float 0, .float 0, .float 0], [])) (fun i h => ∃ J, h = (xS b, J, L, xP b) ∧ (∀ q, q ≠ 60 → q ≠ 66 → J q = I q) ∧ (∀ j, j ≠ 5 → J 60 j = I 60 j) ∧ J 60 5 = nI (xsp T t p i) ∧ ∀ j, j < i → ∀ f, f < 4 → J 66 (4 * j + f) = nI (xzd T t c p j f)) (fun i h hk hV ih => ?_) (fun h hV => ?_) 0 _ (Nat.zero_le _) ⟨I, rfl, fun _ _ _ => rfl, fun _ _ => rfl, h5, fun j hj => absurd hj (Nat.not_lt_zero j)⟩
  · obtain ⟨J, rfl, j1, j2, j3, j4⟩ := hV
    have r1 : xMR T t J := xMR_fr hR (j2 4 (by decide)) (j1 64 (by decide) (by decide))
    have g6 : J 60 6 = 0 := by rw [j2 6 (by decide)]; exact h6
    obtain ⟨z1, z2, z3⟩ := hc i hk
    have sl := xsp_le hp i (fun j hj => hc j (by omega))
    have rl : (xrp T t (xsp T t p i) 5) ≤ t := xr5_le (R := R) (c := c) sl (fun j hj => xld_t 5 j (by have q := z1; unfold xsm at q; rw [q]; exact hj)) 5 (Nat.le_refl 5)
    refine m_sprT r1 g6 j3 sl bR bc (by omega) z1 (fun K k1 k2 k3 k4 k5 => ?_)
    refine xw_go xb_139 2 (f1 := (6, [.ref 60, .int (nI R), .int (nI c), .int (nI (i + 1)), .float 0, .float 0, .float 0, .float 0, .float 0, .float 0], [.int (K 60 6)])) (h1 := (xS b, K, L, xP b)) rfl ⟨rfl, trivial⟩ ?_
    refine xw_cong (l' := [.ref 60, .int (nI R), .int (nI c), .int (nI (i + 1)), .float 0, .float 0, .float 0, .float 0, .float 0, .float 0]) (st' := [.int 0]) (h' := (xS b, K, L, xP b)) rfl (show ([.int (K 60 6)] : List Value) = [.int 0] from ?_) rfl ?_
    · rw [k2 6 (by decide), g6]
    refine xw_go xb_139 3 (f1 := (if (nI (i + 1)) = 0 then 22 else 13, [.ref 60, .int (nI R), .int (nI c), .int (nI (i + 1)), .float 0, .float 0, .float 0, .float 0, .float 0, .float 0], [])) (h1 := (xS b, K, L, xP b)) rfl trivial ?_
    refine xw_if (fun c_10 => ?_) (fun c_10 => ?_)
    · skip
      exfalso
      rw [xl_0, nI_eq (by omega) (by omega)] at c_10
      omega
    · skip
      refine xw_go xb_139 1 (f1 := (14, [.ref 60, .int (nI R), .int (nI c), .int (nI (i + 1)), .float 0, .float 0, .float 0, .float 0, .float 0, .float 0], [.ref 60])) (h1 := (xS b, K, L, xP b)) rfl trivial ?_
      refine xw_call xb_139 rfl rfl rfl rfl rfl (Or.inr ⟨_, _, rfl, rfl⟩) (m_here (I := K) (a := (xrp T t (xsp T t p i) 5)) (xMR_fr r1 (k2 4 (by decide)) (k1 64 (by decide) (by decide))) k3 rl) ?_
      rintro _ _ ⟨rfl, rfl⟩
      refine xw_at (f' := (17, [.ref 60, .int (nI R), .int (nI c), .int (nI (i + 1)), .float 0, .float 0, .float 0, .float 0, .float 0, .float 0], [.int (nI (xlt T t (xrp T t (xsp T t p i) 5)))])) (h' := (xS b, xm_up K 60 5 (nI (xsk T t (xrp T t (xsp T t p i) 5))), L, xP b)) rfl rfl ?_
      refine xw_at (f' := (17, [.ref 60, .int (nI R), .int (nI c), .int (nI (i + 1)), .float 0, .float 0, .float 0, .float 0, .float 0, .float 0], [.int (nI (xlt T t (xrp T t (xsp T t p i) 5)))])) (h' := (xS b, xm_up K 60 5 (nI (xsk T t (xrp T t (xsp T t p i) 5))), L, xP b)) rfl (show (xS b, xm_up K 60 5 (nI (xsk T t (xrp T t (xsp T t p i) 5))), L, xP b) = (xS b, xm_up K 60 5 (nI (xsk T t (xrp T t (xsp T t p i) 5))), L, xP b) from ?_) ?_
      · rfl
      refine xw_go xb_139 2 (f1 := (if ¬ (nI (xlt T t (xrp T t (xsp T t p i) 5))) = 44 then 230 else 22, [.ref 60, .int (nI R), .int (nI c), .int (nI (i + 1)), .float 0, .float 0, .float 0, .float 0, .float 0, .float 0], [])) (h1 := (xS b, xm_up K 60 5 (nI (xsk T t (xrp T t (xsp T t p i) 5))), L, xP b)) rfl trivial ?_
      refine xw_if (fun c_19 => ?_) (fun c_19 => ?_)
      · skip
        exfalso
        rw [xl_44, nI_eq (by omega) (by omega)] at c_19
        exact c_19 z2
      · skip
        refine xw_go xb_139 2 (f1 := (if (nI (i + 1)) ≤ 0 then 40 else 26, [.ref 60, .int (nI R), .int (nI c), .int (nI (i + 1)), .float 0, .float 0, .float 0, .float 0, .float 0, .float 0], [])) (h1 := (xS b, xm_up K 60 5 (nI (xsk T t (xrp T t (xsp T t p i) 5))), L, xP b)) rfl trivial ?_
        refine xw_if (fun c_23 => ?_) (fun c_23 => ?_)
        · skip
          exfalso
          rw [xl_0, nI_leI (by omega) (by omega)] at c_23
          omega
        · skip
          refine xw_go xb_139 4 (f1 := (if 5 ≤ (nI (i + 1)) then 36 else 32, [.ref 60, .int (nI R), .int (nI c), .int (nI (i + 1)), .float 0, .float 0, .float 0, .float 0, .float 0, .float 0], [.ref 60])) (h1 := (xS b, xm_up K 60 5 (nI (xsk T t (xrp T t (xsp T t p i) 5))), L, xP b)) rfl trivial ?_
          refine xw_if (fun c_29 => ?_) (fun c_29 => ?_)
          · skip
            exfalso
            rw [xl_5, nI_leI (by omega) (by omega)] at c_29
            omega
          · skip
            refine xw_go xb_139 2 (f1 := (37, [.ref 60, .int (nI R), .int (nI c), .int (nI (i + 1)), .float 0, .float 0, .float 0, .float 0, .float 0, .float 0], [.int 1, .ref 60])) (h1 := (xS b, xm_up K 60 5 (nI (xsk T t (xrp T t (xsp T t p i) 5))), L, xP b)) rfl trivial ?_
            refine xw_call xb_139 rfl rfl rfl rfl rfl (Or.inr ⟨_, _, rfl, rfl⟩) (m_must1 (I := (xm_up K 60 5 (nI (xsk T t (xrp T t (xsp T t p i) 5))))) (a := xsk T t (xrp T t (xsp T t p i) 5)) (by rw [xm_up_ne (Or.inr (by decide)), k2 6 (by decide)]; exact g6) (xm_up_at _ _ _ _) rfl) ?_
            rintro _ _ ⟨rfl, rfl⟩
            refine xw_at (f' := (40, [.ref 60, .int (nI R), .int (nI c), .int (nI (i + 1)), .float 0, .float 0, .float 0, .float 0, .float 0, .float 0], [])) (h' := (xS b, xm_up (xm_up K 60 5 (nI (xsk T t (xrp T t (xsp T t p i) 5)))) 60 5 (nI (xsk T t (xrp T t (xsp T t p i) 5) + 1)), L, xP b)) rfl rfl ?_
            refine xw_at (f' := (40, [.ref 60, .int (nI R), .int (nI c), .int (nI (i + 1)), .float 0, .float 0, .float 0, .float 0, .float 0, .float 0], [])) (h' := (xS b, xm_up K 60 5 (nI (xsp T t p (i + 1))), L, xP b)) rfl (by rw [xup_2]; rfl) ?_
            refine ih _ ⟨_, rfl, fun q h1 h2 => ?_, fun j h1 => ?_, ?_, fun j hj f hf => ?_⟩
            · rw [xm_up_o h1, k1 q h1 h2]
              exact j1 q h1 h2
            · rw [xm_up_ne (Or.inr h1), k2 j h1]
              exact j2 j h1
            · exact xm_up_at _ _ _ _
            · rw [xm_up_o (by decide)]
              by_cases e : j = i
              · subst e
                exact k4 f hf
              · rw [k5 _ (by omega)]
                exact j4 j (by omega) f hf
  · obtain ⟨J, rfl, j1, j2, j3, j4⟩ := hV
    have r1 : xMR T t J := xMR_fr hR (j2 4 (by decide)) (j1 64 (by decide) (by decide))
    have g6 : J 60 6 = 0 := by rw [j2 6 (by decide)]; exact h6
    have sl := xsp_le hp K0 hc
    have rl : (xrp T t (xsp T t p K0) 5) ≤ t := xr5_le (R := R) (c := c) sl (fun j hj => xld_t 5 j (by have q := hm; unfold xsm at q; rw [q]; exact hj)) 5 (Nat.le_refl 5)
    have l126 : xlt T t (xrp T t (xsp T t p K0) 5) ≤ 126 := xlt_le hR.2.1
    refine m_sprT r1 g6 j3 sl bR bc (by omega) hm (fun K k1 k2 k3 k4 k5 => ?_)
    refine xw_go xb_139 2 (f1 := (6, [.ref 60, .int (nI R), .int (nI c), .int (nI (K0 + 1)), .float 0, .float 0, .float 0, .float 0, .float 0, .float 0], [.int (K 60 6)])) (h1 := (xS b, K, L, xP b)) rfl ⟨rfl, trivial⟩ ?_
    refine xw_cong (l' := [.ref 60, .int (nI R), .int (nI c), .int (nI (K0 + 1)), .float 0, .float 0, .float 0, .float 0, .float 0, .float 0]) (st' := [.int 0]) (h' := (xS b, K, L, xP b)) rfl (show ([.int (K 60 6)] : List Value) = [.int 0] from ?_) rfl ?_
    · rw [k2 6 (by decide), g6]
    refine xw_go xb_139 3 (f1 := (if (nI (K0 + 1)) = 0 then 22 else 13, [.ref 60, .int (nI R), .int (nI c), .int (nI (K0 + 1)), .float 0, .float 0, .float 0, .float 0, .float 0, .float 0], [])) (h1 := (xS b, K, L, xP b)) rfl trivial ?_
    refine xw_if (fun c_10 => ?_) (fun c_10 => ?_)
    · skip
      exfalso
      rw [xl_0, nI_eq (by omega) (by omega)] at c_10
      omega
    · skip
      refine xw_go xb_139 1 (f1 := (14, [.ref 60, .int (nI R), .int (nI c), .int (nI (K0 + 1)), .float 0, .float 0, .float 0, .float 0, .float 0, .float 0], [.ref 60])) (h1 := (xS b, K, L, xP b)) rfl trivial ?_
      refine xw_call xb_139 rfl rfl rfl rfl rfl (Or.inr ⟨_, _, rfl, rfl⟩) (m_here (I := K) (a := (xrp T t (xsp T t p K0) 5)) (xMR_fr r1 (k2 4 (by decide)) (k1 64 (by decide) (by decide))) k3 rl) ?_
      rintro _ _ ⟨rfl, rfl⟩
      refine xw_at (f' := (17, [.ref 60, .int (nI R), .int (nI c), .int (nI (K0 + 1)), .float 0, .float 0, .float 0, .float 0, .float 0, .float 0], [.int (nI (xlt T t (xrp T t (xsp T t p K0) 5)))])) (h' := (xS b, xm_up K 60 5 (nI (xsk T t (xrp T t (xsp T t p K0) 5))), L, xP b)) rfl rfl ?_
      refine xw_at (f' := (17, [.ref 60, .int (nI R), .int (nI c), .int (nI (K0 + 1)), .float 0, .float 0, .float 0, .float 0, .float 0, .float 0], [.int (nI (xlt T t (xrp T t (xsp T t p K0) 5)))])) (h' := (xS b, xm_up K 60 5 (nI (xsk T t (xrp T t (xsp T t p K0) 5))), L, xP b)) rfl (show (xS b, xm_up K 60 5 (nI (xsk T t (xrp T t (xsp T t p K0) 5))), L, xP b) = (xS b, xm_up K 60 5 (nI (xsk T t (xrp T t (xsp T t p K0) 5))), L, xP b) from ?_) ?_
      · rfl
      refine xw_go xb_139 2 (f1 := (if ¬ (nI (xlt T t (xrp T t (xsp T t p K0) 5))) = 44 then 230 else 22, [.ref 60, .int (nI R), .int (nI c), .int (nI (K0 + 1)), .float 0, .float 0, .float 0, .float 0, .float 0, .float 0], [])) (h1 := (xS b, xm_up K 60 5 (nI (xsk T t (xrp T t (xsp T t p K0) 5))), L, xP b)) rfl trivial ?_
      refine xw_if (fun c_19 => ?_) (fun c_19 => ?_)
      · skip
        exfalso
        rw [xl_44, nI_eq (by omega) (by omega)] at c_19
        exact c_19 hl
      · skip
        refine xw_go xb_139 2 (f1 := (if (nI (K0 + 1)) ≤ 0 then 40 else 26, [.ref 60, .int (nI R), .int (nI c), .int (nI (K0 + 1)), .float 0, .float 0, .float 0, .float 0, .float 0, .float 0], [])) (h1 := (xS b, xm_up K 60 5 (nI (xsk T t (xrp T t (xsp T t p K0) 5))), L, xP b)) rfl trivial ?_
        refine xw_if (fun c_23 => ?_) (fun c_23 => ?_)
        · skip
          exfalso
          rw [xl_0, nI_leI (by omega) (by omega)] at c_23
          omega
        · skip
          refine xw_go xb_139 4 (f1 := (if 5 ≤ (nI (K0 + 1)) then 36 else 32, [.ref 60, .int (nI R), .int (nI c), .int (nI (K0 + 1)), .float 0, .float 0, .float 0, .float 0, .float 0, .float 0], [.ref 60])) (h1 := (xS b, xm_up K 60 5 (nI (xsk T t (xrp T t (xsp T t p K0) 5))), L, xP b)) rfl trivial ?_
          refine xw_if (fun c_29 => ?_) (fun c_29 => ?_)
          · skip
            refine xw_go xb_139 1 (f1 := (37, [.ref 60, .int (nI R), .int (nI c), .int (nI (K0 + 1)), .float 0, .float 0, .float 0, .float 0, .float 0, .float 0], [.int 0, .ref 60])) (h1 := (xS b, xm_up K 60 5 (nI (xsk T t (xrp T t (xsp T t p K0) 5))), L, xP b)) rfl trivial ?_
            refine xw_call xb_139 rfl rfl rfl rfl rfl (Or.inr ⟨_, _, rfl, rfl⟩) (m_must0 (I := (xm_up K 60 5 (nI (xsk T t (xrp T t (xsp T t p K0) 5))))) (a := xsk T t (xrp T t (xsp T t p K0) 5)) (by rw [xm_up_ne (Or.inr (by decide)), k2 6 (by decide)]; exact g6) (xm_up_at _ _ _ _) rfl) ?_
            rintro _ _ ⟨rfl, rfl⟩
            refine xw_at (f' := (40, [.ref 60, .int (nI R), .int (nI c), .int (nI (K0 + 1)), .float 0, .float 0, .float 0, .float 0, .float 0, .float 0], [])) (h' := (xS b, xm_up (xm_up K 60 5 (nI (xsk T t (xrp T t (xsp T t p K0) 5)))) 60 6 1, L, xP b)) rfl rfl ?_
            refine xw_go xb_139 2 (f1 := (44, [.ref 60, .int (nI R), .int (nI c), .int (nI (K0 + 1)), .float 0, .float 0, .float 0, .float 0, .float 0, .float 0], [.int ((xm_up (xm_up K 60 5 (nI (xsk T t (xrp T t (xsp T t p K0) 5)))) 60 6 1) 60 6)])) (h1 := (xS b, xm_up (xm_up K 60 5 (nI (xsk T t (xrp T t (xsp T t p K0) 5)))) 60 6 1, L, xP b)) rfl ⟨rfl, trivial⟩ ?_
            refine xw_cong (l' := [.ref 60, .int (nI R), .int (nI c), .int (nI (K0 + 1)), .float 0, .float 0, .float 0, .float 0, .float 0, .float 0]) (st' := [.int 1]) (h' := (xS b, xm_up (xm_up K 60 5 (nI (xsk T t (xrp T t (xsp T t p K0) 5)))) 60 6 1, L, xP b)) rfl (show ([.int ((xm_up (xm_up K 60 5 (nI (xsk T t (xrp T t (xsp T t p K0) 5)))) 60 6 1) 60 6)] : List Value) = [.int 1] from ?_) rfl ?_
            · rw [xm_up_at]
            refine xw_go xb_139 25 (f1 := (126, [.ref 60, .int (nI R), .int (nI c), .int (nI (K0 + 1)), .int 0, .int (-1), .float 0, .float 0, .float 0, .float 0], [.int 0, .ref 60])) (h1 := (xS b, xm_up (xm_up K 60 5 (nI (xsk T t (xrp T t (xsp T t p K0) 5)))) 60 6 1, L, xP b)) rfl trivial ?_
            refine xw_call xb_139 rfl rfl rfl rfl rfl (Or.inr ⟨_, _, rfl, rfl⟩) (m_mustF (I := (xm_up (xm_up K 60 5 (nI (xsk T t (xrp T t (xsp T t p K0) 5)))) 60 6 1)) (a := xsk T t (xrp T t (xsp T t p K0) 5)) (xm_up_at _ _ _ _) (by rw [xm_up_ne (Or.inr (by decide)), xm_up_at] <;> rfl)) ?_
            rintro _ _ ⟨rfl, rfl⟩
            refine xw_at (f' := (129, [.ref 60, .int (nI R), .int (nI c), .int (nI (K0 + 1)), .int 0, .int (-1), .float 0, .float 0, .float 0, .float 0], [])) (h' := (xS b, xm_up (xm_up K 60 5 (nI (xsk T t (xrp T t (xsp T t p K0) 5)))) 60 6 1, L, xP b)) rfl rfl ?_
            refine xw_go xb_139 5 (f1 := (134, [.ref 60, .int (nI R), .int (nI c), .int (nI (K0 + 1)), .int 0, .int (-1), .float 0, .float 0, .float 0, .float 0], [.int ((nI R) - 1), .int 0, .ref 60])) (h1 := (xS b, xm_up (xm_up K 60 5 (nI (xsk T t (xrp T t (xsp T t p K0) 5)))) 60 6 1, L, xP b)) rfl trivial ?_
            refine xw_call xb_139 rfl rfl rfl rfl rfl (Or.inr ⟨_, _, rfl, rfl⟩) (m_digitF (I := (xm_up (xm_up K 60 5 (nI (xsk T t (xrp T t (xsp T t p K0) 5)))) 60 6 1)) (a := xsk T t (xrp T t (xsp T t p K0) 5)) (xm_up_at _ _ _ _) (by rw [xm_up_ne (Or.inr (by decide)), xm_up_at] <;> rfl)) ?_
            rintro _ _ ⟨rfl, rfl⟩
            refine xw_at (f' := (137, [.ref 60, .int (nI R), .int (nI c), .int (nI (K0 + 1)), .int 0, .int (-1), .float 0, .float 0, .float 0, .float 0], [.int (-1)])) (h' := (xS b, xm_up (xm_up K 60 5 (nI (xsk T t (xrp T t (xsp T t p K0) 5)))) 60 6 1, L, xP b)) rfl rfl ?_
            refine xw_go xb_139 6 (f1 := (144, [.ref 60, .int (nI R), .int (nI c), .int (nI (K0 + 1)), .int 0, .int (-1), .int (-1), .float 0, .float 0, .float 0], [.int ((nI c) - 1), .int 0, .ref 60])) (h1 := (xS b, xm_up (xm_up K 60 5 (nI (xsk T t (xrp T t (xsp T t p K0) 5)))) 60 6 1, L, xP b)) rfl trivial ?_
            refine xw_call xb_139 rfl rfl rfl rfl rfl (Or.inr ⟨_, _, rfl, rfl⟩) (m_digitF (I := (xm_up (xm_up K 60 5 (nI (xsk T t (xrp T t (xsp T t p K0) 5)))) 60 6 1)) (a := xsk T t (xrp T t (xsp T t p K0) 5)) (xm_up_at _ _ _ _) (by rw [xm_up_ne (Or.inr (by decide)), xm_up_at] <;> rfl)) ?_
            rintro _ _ ⟨rfl, rfl⟩
            refine xw_at (f' := (147, [.ref 60, .int (nI R), .int (nI c), .int (nI (K0 + 1)), .int 0, .int (-1), .int (-1), .float 0, .float 0, .float 0], [.int (-1)])) (h' := (xS b, xm_up (xm_up K 60 5 (nI (xsk T t (xrp T t (xsp T t p K0) 5)))) 60 6 1, L, xP b)) rfl rfl ?_
            refine xw_go xb_139 4 (f1 := (152, [.ref 60, .int (nI R), .int (nI c), .int (nI (K0 + 1)), .int 0, .int (-1), .int (-1), .int (-1), .float 0, .float 0], [.int 4, .int 0, .ref 60])) (h1 := (xS b, xm_up (xm_up K 60 5 (nI (xsk T t (xrp T t (xsp T t p K0) 5)))) 60 6 1, L, xP b)) rfl trivial ?_
            refine xw_call xb_139 rfl rfl rfl rfl rfl (Or.inr ⟨_, _, rfl, rfl⟩) (m_digitF (I := (xm_up (xm_up K 60 5 (nI (xsk T t (xrp T t (xsp T t p K0) 5)))) 60 6 1)) (a := xsk T t (xrp T t (xsp T t p K0) 5)) (xm_up_at _ _ _ _) (by rw [xm_up_ne (Or.inr (by decide)), xm_up_at] <;> rfl)) ?_
            rintro _ _ ⟨rfl, rfl⟩
            refine xw_at (f' := (155, [.ref 60, .int (nI R), .int (nI c), .int (nI (K0 + 1)), .int 0, .int (-1), .int (-1), .int (-1), .float 0, .float 0], [.int (-1)])) (h' := (xS b, xm_up (xm_up K 60 5 (nI (xsk T t (xrp T t (xsp T t p K0) 5)))) 60 6 1, L, xP b)) rfl rfl ?_
            refine xw_go xb_139 4 (f1 := (161, [.ref 60, .int (nI R), .int (nI c), .int (nI (K0 + 1)), .int 0, .int (-1), .int (-1), .int (-1), .int (-1), .float 0], [.int 9, .int 1, .ref 60])) (h1 := (xS b, xm_up (xm_up K 60 5 (nI (xsk T t (xrp T t (xsp T t p K0) 5)))) 60 6 1, L, xP b)) rfl trivial ?_
            refine xw_call xb_139 rfl rfl rfl rfl rfl (Or.inr ⟨_, _, rfl, rfl⟩) (m_digitF (I := (xm_up (xm_up K 60 5 (nI (xsk T t (xrp T t (xsp T t p K0) 5)))) 60 6 1)) (a := xsk T t (xrp T t (xsp T t p K0) 5)) (xm_up_at _ _ _ _) (by rw [xm_up_ne (Or.inr (by decide)), xm_up_at] <;> rfl)) ?_
            rintro _ _ ⟨rfl, rfl⟩
            refine xw_at (f' := (164, [.ref 60, .int (nI R), .int (nI c), .int (nI (K0 + 1)), .int 0, .int (-1), .int (-1), .int (-1), .int (-1), .float 0], [.int (-1)])) (h' := (xS b, xm_up (xm_up K 60 5 (nI (xsk T t (xrp T t (xsp T t p K0) 5)))) 60 6 1, L, xP b)) rfl rfl ?_
            refine xw_go xb_139 3 (f1 := (170, [.ref 60, .int (nI R), .int (nI c), .int (nI (K0 + 1)), .int 0, .int (-1), .int (-1), .int (-1), .int (-1), .int (-1)], [.int ((xm_up (xm_up K 60 5 (nI (xsk T t (xrp T t (xsp T t p K0) 5)))) 60 6 1) 60 6)])) (h1 := (xS b, xm_up (xm_up K 60 5 (nI (xsk T t (xrp T t (xsp T t p K0) 5)))) 60 6 1, L, xP b)) rfl ⟨rfl, trivial⟩ ?_
            refine xw_cong (l' := [.ref 60, .int (nI R), .int (nI c), .int (nI (K0 + 1)), .int 0, .int (-1), .int (-1), .int (-1), .int (-1), .int (-1)]) (st' := [.int 1]) (h' := (xS b, xm_up (xm_up K 60 5 (nI (xsk T t (xrp T t (xsp T t p K0) 5)))) 60 6 1, L, xP b)) rfl (show ([.int ((xm_up (xm_up K 60 5 (nI (xsk T t (xrp T t (xsp T t p K0) 5)))) 60 6 1) 60 6)] : List Value) = [.int 1] from ?_) rfl ?_
            · rw [xm_up_at]
            refine xw_go xb_139 5 (f1 := (6, [.ref 60, .int (nI R), .int (nI c), .int ((nI (K0 + 1)) + 1), .int 0, .int (-1), .int (-1), .int (-1), .int (-1), .int (-1)], [.int ((xm_up (xm_up K 60 5 (nI (xsk T t (xrp T t (xsp T t p K0) 5)))) 60 6 1) 60 6)])) (h1 := (xS b, xm_up (xm_up K 60 5 (nI (xsk T t (xrp T t (xsp T t p K0) 5)))) 60 6 1, L, xP b)) rfl ⟨rfl, trivial⟩ ?_
            refine xw_cong (l' := [.ref 60, .int (nI R), .int (nI c), .int ((nI (K0 + 1)) + 1), .int 0, .int (-1), .int (-1), .int (-1), .int (-1), .int (-1)]) (st' := [.int 1]) (h' := (xS b, xm_up (xm_up K 60 5 (nI (xsk T t (xrp T t (xsp T t p K0) 5)))) 60 6 1, L, xP b)) rfl (show ([.int ((xm_up (xm_up K 60 5 (nI (xsk T t (xrp T t (xsp T t p K0) 5)))) 60 6 1) 60 6)] : List Value) = [.int 1] from ?_) rfl ?_
            · rw [xm_up_at]
            refine xw_go xb_139 2 (f1 := (231, [.ref 60, .int (nI R), .int (nI c), .int ((nI (K0 + 1)) + 1), .int 0, .int (-1), .int (-1), .int (-1), .int (-1), .int (-1)], [.int ((nI (K0 + 1)) + 1)])) (h1 := (xS b, xm_up (xm_up K 60 5 (nI (xsk T t (xrp T t (xsp T t p K0) 5)))) 60 6 1, L, xP b)) rfl trivial ?_
            refine xw_ret xb_139 rfl rfl trivial ?_
            refine ⟨_, rfl, _, rfl, fun q h1 h2 => ?_, fun j h1 h2 => ?_, ?_, ?_⟩
            · rw [xm_up_o h1, xm_up_o h1, k1 q h1 h2]
              exact j1 q h1 h2
            · rw [xm_up_ne (Or.inr h2), xm_up_ne (Or.inr h1), k2 j h1]
              exact j2 j h1
            · rw [xm_up_ne (Or.inr (by decide)), xm_up_at, hm]
            · exact xm_up_at _ _ _ _
          · skip
            exfalso
            rw [xl_5, nI_leI (by omega) (by omega)] at c_29
            omega

theorem m_sprsB {d : Nat} {b : Bool} {I : Nat → Nat → Int32} {L : Nat → Nat → Int64} {T : Nat → Nat} {t : Nat} (hR : xMR T t I) {R c p : Nat} (h6 : I 60 6 = 0) (h5 : I 60 5 = nI p) (hp : p ≤ t) (bR : 2 ≤ R ∧ R ≤ 8) (bc : 2 ≤ c ∧ c ≤ 8) {K0 : Nat} (hK0 : K0 ≤ 4) (hc : ∀ j, j < K0 → xzc T t R c p j) (hm : xsm T t R c p K0 < 5) {x1 : Int32} (e_x1 : x1 = nI R) {x2 : Int32} (e_x2 : x2 = nI c) : xm_Z (d + 3) 139 [.ref 60, .int x1, .int x2] (xS b, I, L, xP b) (fun rz hz => ∃ v, rz = some (.int v) ∧ ∃ I', hz = (xS b, I', L, xP b) ∧ (∀ q, q ≠ 60 → q ≠ 66 → I' q = I q) ∧ (∀ j, j ≠ 5 → j ≠ 6 → I' 60 j = I 60 j) ∧ I' 60 5 = nI (xsk T t (xrp T t (xsp T t p K0) (xsm T t R c p K0))) ∧ I' 60 6 = 1) := by
  subst e_x1
  subst e_x2
  refine xw_S xb_139 (l := [.ref 60, .int (nI R), .int (nI c), .float 0, .float 0, .float 0, .float 0, .float 0, .float 0, .float 0]) (Nat.le_of_ble_eq_true rfl) rfl ?_
  refine xw_go xb_139 4 (f1 := (6, [.ref 60, .int (nI R), .int (nI c), .int 0, .float 0, .float 0, .float 0, .float 0, .float 0, .float 0], [.int (I 60 6)])) (h1 := (xS b, I, L, xP b)) rfl ⟨rfl, trivial⟩ ?_
  refine xw_cong (l' := [.ref 60, .int (nI R), .int (nI c), .int 0, .float 0, .float 0, .float 0, .float 0, .float 0, .float 0]) (st' := [.int 0]) (h' := (xS b, I, L, xP b)) rfl (show ([.int (I 60 6)] : List Value) = [.int 0] from ?_) rfl ?_
  · rw [h6]
  refine xw_go xb_139 5 (f1 := (40, [.ref 60, .int (nI R), .int (nI c), .int 0, .float 0, .float 0, .float 0, .float 0, .float 0, .float 0], [])) (h1 := (xS b, I, L, xP b)) rfl trivial ?_
  refine xw_cong (l' := [.ref 60, .int (nI R), .int (nI c), .int (nI 0), .float 0, .float 0, .float 0, .float 0, .float 0, .float 0]) (st' := []) (h' := (xS b, I, L, xP b)) (show ([.ref 60, .int (nI R), .int (nI c), .int 0, .float 0, .float 0, .float 0, .float 0, .float 0, .float 0] : List Value) = [.ref 60, .int (nI R), .int (nI c), .int (nI 0), .float 0, .float 0, .float 0, .float 0, .float 0, .float 0] from ?_) rfl rfl ?_
  · rfl
  refine xw_loopP K0 (fun i => (40, [.ref 60, .int (nI R), .int (nI c), .int (nI i), .float 0, .float 0, .float 0, .float 0, .float 0, .float 0], [])) (fun i h => ∃ J, h = (xS b, J, L, xP b) ∧ (∀ q, q ≠ 60 → q ≠ 66 → J q = I q) ∧ (∀ j, j ≠ 5 → J 60 j = I 60 j) ∧ J 60 5 = nI (xsp T t p i) ∧ ∀ j, j < i → ∀ f, f < 4 → J 66 (4 * j + f) = nI (xzd T t c p j f)) (fun i h hk hV ih => ?_) (fun h hV => ?_) 0 _ (Nat.zero_le _) ⟨I, rfl, fun _ _ _ => rfl, fun _ _ => rfl, h5, fun j hj => absurd hj (Nat.not_lt_zero j)⟩
  · obtain ⟨J, rfl, j1, j2, j3, j4⟩ := hV
    have r1 : xMR T t J := xMR_fr hR (j2 4 (by decide)) (j1 64 (by decide) (by decide))
    have g6 : J 60 6 = 0 := by rw [j2 6 (by decide)]; exact h6
    obtain ⟨z1, z2, z3⟩ := hc i hk
    have sl := xsp_le hp i (fun j hj => hc j (by omega))
    have rl : (xrp T t (xsp T t p i) 5) ≤ t := xr5_le (R := R) (c := c) sl (fun j hj => xld_t 5 j (by have q := z1; unfold xsm at q; rw [q]; exact hj)) 5 (Nat.le_refl 5)
    refine m_sprT r1 g6 j3 sl bR bc (by omega) z1 (fun K k1 k2 k3 k4 k5 => ?_)
    refine xw_go xb_139 2 (f1 := (6, [.ref 60, .int (nI R), .int (nI c), .int (nI (i + 1)), .float 0, .float 0, .float 0, .float 0, .float 0, .float 0], [.int (K 60 6)])) (h1 := (xS b, K, L, xP b)) rfl ⟨rfl, trivial⟩ ?_
    refine xw_cong (l' := [.ref 60, .int (nI R), .int (nI c), .int (nI (i + 1)), .float 0, .float 0, .float 0, .float 0, .float 0, .float 0]) (st' := [.int 0]) (h' := (xS b, K, L, xP b)) rfl (show ([.int (K 60 6)] : List Value) = [.int 0] from ?_) rfl ?_
    · rw [k2 6 (by decide), g6]
    refine xw_go xb_139 3 (f1 := (if (nI (i + 1)) = 0 then 22 else 13, [.ref 60, .int (nI R), .int (nI c), .int (nI (i + 1)), .float 0, .float 0, .float 0, .float 0, .float 0, .float 0], [])) (h1 := (xS b, K, L, xP b)) rfl trivial ?_
    refine xw_if (fun c_10 => ?_) (fun c_10 => ?_)
    · skip
      exfalso
      rw [xl_0, nI_eq (by omega) (by omega)] at c_10
      omega
    · skip
      refine xw_go xb_139 1 (f1 := (14, [.ref 60, .int (nI R), .int (nI c), .int (nI (i + 1)), .float 0, .float 0, .float 0, .float 0, .float 0, .float 0], [.ref 60])) (h1 := (xS b, K, L, xP b)) rfl trivial ?_
      refine xw_call xb_139 rfl rfl rfl rfl rfl (Or.inr ⟨_, _, rfl, rfl⟩) (m_here (I := K) (a := (xrp T t (xsp T t p i) 5)) (xMR_fr r1 (k2 4 (by decide)) (k1 64 (by decide) (by decide))) k3 rl) ?_
      rintro _ _ ⟨rfl, rfl⟩
      refine xw_at (f' := (17, [.ref 60, .int (nI R), .int (nI c), .int (nI (i + 1)), .float 0, .float 0, .float 0, .float 0, .float 0, .float 0], [.int (nI (xlt T t (xrp T t (xsp T t p i) 5)))])) (h' := (xS b, xm_up K 60 5 (nI (xsk T t (xrp T t (xsp T t p i) 5))), L, xP b)) rfl rfl ?_
      refine xw_at (f' := (17, [.ref 60, .int (nI R), .int (nI c), .int (nI (i + 1)), .float 0, .float 0, .float 0, .float 0, .float 0, .float 0], [.int (nI (xlt T t (xrp T t (xsp T t p i) 5)))])) (h' := (xS b, xm_up K 60 5 (nI (xsk T t (xrp T t (xsp T t p i) 5))), L, xP b)) rfl (show (xS b, xm_up K 60 5 (nI (xsk T t (xrp T t (xsp T t p i) 5))), L, xP b) = (xS b, xm_up K 60 5 (nI (xsk T t (xrp T t (xsp T t p i) 5))), L, xP b) from ?_) ?_
      · rfl
      refine xw_go xb_139 2 (f1 := (if ¬ (nI (xlt T t (xrp T t (xsp T t p i) 5))) = 44 then 230 else 22, [.ref 60, .int (nI R), .int (nI c), .int (nI (i + 1)), .float 0, .float 0, .float 0, .float 0, .float 0, .float 0], [])) (h1 := (xS b, xm_up K 60 5 (nI (xsk T t (xrp T t (xsp T t p i) 5))), L, xP b)) rfl trivial ?_
      refine xw_if (fun c_19 => ?_) (fun c_19 => ?_)
      · skip
        exfalso
        rw [xl_44, nI_eq (by omega) (by omega)] at c_19
        exact c_19 z2
      · skip
        refine xw_go xb_139 2 (f1 := (if (nI (i + 1)) ≤ 0 then 40 else 26, [.ref 60, .int (nI R), .int (nI c), .int (nI (i + 1)), .float 0, .float 0, .float 0, .float 0, .float 0, .float 0], [])) (h1 := (xS b, xm_up K 60 5 (nI (xsk T t (xrp T t (xsp T t p i) 5))), L, xP b)) rfl trivial ?_
        refine xw_if (fun c_23 => ?_) (fun c_23 => ?_)
        · skip
          exfalso
          rw [xl_0, nI_leI (by omega) (by omega)] at c_23
          omega
        · skip
          refine xw_go xb_139 4 (f1 := (if 5 ≤ (nI (i + 1)) then 36 else 32, [.ref 60, .int (nI R), .int (nI c), .int (nI (i + 1)), .float 0, .float 0, .float 0, .float 0, .float 0, .float 0], [.ref 60])) (h1 := (xS b, xm_up K 60 5 (nI (xsk T t (xrp T t (xsp T t p i) 5))), L, xP b)) rfl trivial ?_
          refine xw_if (fun c_29 => ?_) (fun c_29 => ?_)
          · skip
            exfalso
            rw [xl_5, nI_leI (by omega) (by omega)] at c_29
            omega
          · skip
            refine xw_go xb_139 2 (f1 := (37, [.ref 60, .int (nI R), .int (nI c), .int (nI (i + 1)), .float 0, .float 0, .float 0, .float 0, .float 0, .float 0], [.int 1, .ref 60])) (h1 := (xS b, xm_up K 60 5 (nI (xsk T t (xrp T t (xsp T t p i) 5))), L, xP b)) rfl trivial ?_
            refine xw_call xb_139 rfl rfl rfl rfl rfl (Or.inr ⟨_, _, rfl, rfl⟩) (m_must1 (I := (xm_up K 60 5 (nI (xsk T t (xrp T t (xsp T t p i) 5))))) (a := xsk T t (xrp T t (xsp T t p i) 5)) (by rw [xm_up_ne (Or.inr (by decide)), k2 6 (by decide)]; exact g6) (xm_up_at _ _ _ _) rfl) ?_
            rintro _ _ ⟨rfl, rfl⟩
            refine xw_at (f' := (40, [.ref 60, .int (nI R), .int (nI c), .int (nI (i + 1)), .float 0, .float 0, .float 0, .float 0, .float 0, .float 0], [])) (h' := (xS b, xm_up (xm_up K 60 5 (nI (xsk T t (xrp T t (xsp T t p i) 5)))) 60 5 (nI (xsk T t (xrp T t (xsp T t p i) 5) + 1)), L, xP b)) rfl rfl ?_
            refine xw_at (f' := (40, [.ref 60, .int (nI R), .int (nI c), .int (nI (i + 1)), .float 0, .float 0, .float 0, .float 0, .float 0, .float 0], [])) (h' := (xS b, xm_up K 60 5 (nI (xsp T t p (i + 1))), L, xP b)) rfl (by rw [xup_2]; rfl) ?_
            refine ih _ ⟨_, rfl, fun q h1 h2 => ?_, fun j h1 => ?_, ?_, fun j hj f hf => ?_⟩
            · rw [xm_up_o h1, k1 q h1 h2]
              exact j1 q h1 h2
            · rw [xm_up_ne (Or.inr h1), k2 j h1]
              exact j2 j h1
            · exact xm_up_at _ _ _ _
            · rw [xm_up_o (by decide)]
              by_cases e : j = i
              · subst e
                exact k4 f hf
              · rw [k5 _ (by omega)]
                exact j4 j (by omega) f hf
  · obtain ⟨J, rfl, j1, j2, j3, j4⟩ := hV
    have r1 : xMR T t J := xMR_fr hR (j2 4 (by decide)) (j1 64 (by decide) (by decide))
    have g6 : J 60 6 = 0 := by rw [j2 6 (by decide)]; exact h6
    have sl := xsp_le hp K0 hc
    refine m_sprF r1 g6 j3 sl bR bc (by omega) hm (fun K k1 k2 k3 k4 => ?_)
    refine xw_go xb_139 1 (f1 := (231, [.ref 60, .int (nI R), .int (nI c), .int (nI (K0 + 1)), .float 0, .float 0, .float 0, .float 0, .float 0, .float 0], [.int (nI (K0 + 1))])) (h1 := (xS b, K, L, xP b)) rfl trivial ?_
    refine xw_ret xb_139 rfl rfl trivial ?_
    refine ⟨_, rfl, K, rfl, fun q h1 h2 => ?_, fun j h1 h2 => ?_, k3, k4⟩
    · rw [k1 q h1 h2]
      exact j1 q h1 h2
    · rw [k2 j h1 h2]
      exact j2 j h1

