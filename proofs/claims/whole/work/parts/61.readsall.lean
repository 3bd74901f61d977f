/-! ===== the class reads: all of it ===== -/
theorem c_sprsG {d : Nat} {b : Bool} {I : Nat → Nat → Int32} {L : Nat → Nat → Int64} {T : Nat → Nat} {t : Nat} (hR : xRT T t I) {R c p : Nat} (h3 : I 43 3 = nI R) (h4 : I 43 4 = nI c) (h2 : I 43 2 = nI p) (hp : p ≤ t) (bR : 2 ≤ R ∧ R ≤ 8) (bc : 2 ≤ c ∧ c ≤ 8) {K0 : Nat} (hK0 : K0 ≤ 4) (hc : ∀ j, j < K0 → xzc T t R c p j) (hg : xzg T t R c p K0) : xm_Z (d + 4) 50 [.ref 43] (xS b, I, L, xP b) (fun rz hz => rz = some (.int 1) ∧ ∃ I', hz = (xS b, I', L, xP b) ∧ (∀ a, a ≠ 43 → a < 46 ∨ 51 ≤ a → I' a = I a) ∧ I' 43 3 = nI R ∧ I' 43 4 = nI c ∧ I' 43 7 = nI (K0 + 1) ∧ ∀ j, j < K0 + 1 → ∀ f, f < 4 → I' (46 + j) f = nI (xzd T t c p j f)) := by
  refine xw_S xb_50 (l := [.ref 43, .float 0]) (Nat.le_of_ble_eq_true rfl) rfl ?_
  refine xw_go xb_50 3 (f1 := (5, [.ref 43, .float 0], [])) (h1 := (xS b, xm_up I 43 7 0, L, xP b)) rfl ⟨rfl, trivial⟩ ?_
  refine xw_loopP K0 (fun i => (5, [.ref 43, .float 0], [])) (fun i h => ∃ J, h = (xS b, J, L, xP b) ∧ (∀ a, a ≠ 43 → a < 46 ∨ 51 ≤ a → J a = I a) ∧ J 43 1 = I 43 1 ∧ J 43 3 = nI R ∧ J 43 4 = nI c ∧ J 43 2 = nI (xsp T t p i) ∧ J 43 7 = nI i ∧ ∀ j, j < i → ∀ f, f < 4 → J (46 + j) f = nI (xzd T t c p j f)) (fun i h hk hV ih => ?_) (fun h hV => ?_) 0 _ (Nat.zero_le _) ⟨_, rfl, fun a h1 h2 => xm_up_o h1, xm_up_ne (Or.inr (by decide)), by rw [xm_up_ne (Or.inr (by decide))]; exact h3, by rw [xm_up_ne (Or.inr (by decide))]; exact h4, by rw [xm_up_ne (Or.inr (by decide))]; exact h2, xm_up_at _ _ _ _, fun j hj => absurd hj (Nat.not_lt_zero j)⟩
  · obtain ⟨J, rfl, j1, j2, j3, j4, j5, j6, j7⟩ := hV
    have hRJ : xRT T t J := xRT_fr hR j2 (j1 42 (by decide) (by decide))
    obtain ⟨z1, z2, z3⟩ := hc i hk
    have sl := xsp_le hp i (fun j hj => hc j (by omega))
    have em1 : xlC T t (xrp T t (xsp T t p i) 5) = -1 ↔ xlt T t (xrp T t (xsp T t p i) 5) = 0 := xlC_m1 hR.2.1
    have e44 : xlC T t (xrp T t (xsp T t p i) 5) = 44 ↔ xlt T t (xrp T t (xsp T t p i) 5) = 44 := xlC_eq hR.2.1 (by decide) (by decide)
    refine xw_go xb_50 2 (f1 := (9, [.ref 43, .float 0], [.int (J 43 7)])) (h1 := (xS b, J, L, xP b)) rfl ⟨rfl, trivial⟩ ?_
    refine xw_cong (l' := [.ref 43, .float 0]) (st' := [.int (nI i)]) (h' := (xS b, J, L, xP b)) rfl (show ([.int (J 43 7)] : List Value) = [.int (nI i)] from ?_) rfl ?_
    · rw [j6]
    refine xw_go xb_50 2 (f1 := (if 5 ≤ (nI i) then 82 else 13, [.ref 43, .float 0], [])) (h1 := (xS b, J, L, xP b)) rfl trivial ?_
    refine xw_if (fun c_10 => ?_) (fun c_10 => ?_)
    · skip
      exfalso
      try simp only [xB_dec, Classical.not_not] at c_10
      try simp (disch := omega) only [xt_eq, xt_lt, xt_le, xkt_0, xkt_1, xkt_2, xkt_3, xkt_4, xkt_5, xkt_6, xkt_7, xkt_8, xkt_9, xkt_10, xkt_11, xkt_12, xkt_13, xkt_14, xkt_16, xkt_20, xkt_24, xkt_31, xkt_32, xkt_40, xkt_44, xkt_47, xkt_48, xkt_57, xkt_59, xkt_60, xkt_63, xkt_64, xkt_65, xkt_72, xkt_95, xkt_99, xkt_100, xkt_101, xkt_103, xkt_110, xkt_112, xkt_113, xkt_114, xkt_119, xkt_126, xkt_159, xkt_576, xkt_999, xkt_9999, xkt_65536, xkt_999999, xkt_m1, xkt_m2, xkt_m3, xkt_m4, xkt_m11, xkt_m12, xkt_m13, xkt_m14, xkt_m20, xjt_0, xjt_1, xjt_2, xjt_3, xjt_4, xjt_5, xjt_6, xjt_7, xjt_8, xjt_9, xjt_10, xjt_11, xjt_12, xjt_13, xjt_14, xjt_16, xjt_20, xjt_24, xjt_31, xjt_32, xjt_40, xjt_44, xjt_47, xjt_48, xjt_57, xjt_59, xjt_60, xjt_63, xjt_64, xjt_65, xjt_72, xjt_95, xjt_99, xjt_100, xjt_101, xjt_103, xjt_110, xjt_112, xjt_113, xjt_114, xjt_119, xjt_126, xjt_159, xjt_576, xjt_999, xjt_9999, xjt_65536, xjt_999999, xt64, xt_n, not_true_eq_false, not_false_eq_true, Classical.not_not] at c_10
      all_goals omega
    · skip
      refine xw_go xb_50 5 (f1 := (22, [.ref 43, .float 0], [.int (J 43 7), .ref 45, .ref 43])) (h1 := (xS b, J, L, xP b)) rfl ⟨rfl, rfl, trivial⟩ ?_
      refine xw_cong (l' := [.ref 43, .float 0]) (st' := [.int (nI i), .ref 45, .ref 43]) (h' := (xS b, J, L, xP b)) rfl (show ([.int (J 43 7), .ref 45, .ref 43] : List Value) = [.int (nI i), .ref 45, .ref 43] from ?_) rfl ?_
      · rw [j6]
      refine xw_go xb_50 1 (f1 := (23, [.ref 43, .float 0], [xm_o (xP b 45 (nI i).toNatClampNeg), .ref 43])) (h1 := (xS b, J, L, xP b)) rfl ⟨(xn_ar (n := i) (N := 5) rfl (by omega) (by decide)), ⟨Nat.le_of_ble_eq_true rfl, Nat.le_of_ble_eq_true rfl⟩, trivial⟩ ?_
      refine xw_cong (l' := [.ref 43, .float 0]) (st' := [.ref (46 + i), .ref 43]) (h' := (xS b, J, L, xP b)) rfl (show ([xm_o (xP b 45 (nI i).toNatClampNeg), .ref 43] : List Value) = [.ref (46 + i), .ref 43] from ?_) rfl ?_
      · rw [xn_cl (by omega), xP_45 (by omega)]
        rfl
      refine xw_call xb_50 rfl rfl rfl rfl rfl (Or.inr ⟨_, _, rfl, rfl⟩) (c_sprT (I := J) hRJ j3 j4 j5 sl bR bc (by omega) z1) ?_
      rintro _ _ ⟨rfl, K, rfl, k1, k2, k3, k4⟩
      have rl : (xrp T t (xsp T t p i) 5) ≤ t := xr5_le (R := R) (c := c) sl (fun j hj => xld_t 5 j (by have q := z1; unfold xsm at q; rw [q]; exact hj)) 5 (Nat.le_refl 5)
      refine xw_at (f' := (26, [.ref 43, .float 0], [.int 1])) (h' := (xS b, K, L, xP b)) rfl rfl ?_
      refine xw_go xb_50 7 (f1 := (41, [.ref 43, .float 0], [])) (h1 := (xS b, xm_up K 43 7 ((K 43 7) + 1), L, xP b)) rfl ⟨rfl, rfl, trivial⟩ ?_
      refine xw_at (f' := (41, [.ref 43, .float 0], [])) (h' := (xS b, xm_up K 43 7 (nI (i + 1)), L, xP b)) rfl (show (xS b, xm_up K 43 7 ((K 43 7) + 1), L, xP b) = (xS b, xm_up K 43 7 (nI (i + 1)), L, xP b) from ?_) ?_
      · rw [k2 7 (by decide), j6, nI_1]
      refine xw_go xb_50 1 (f1 := (42, [.ref 43, .float 0], [.ref 43])) (h1 := (xS b, xm_up K 43 7 (nI (i + 1)), L, xP b)) rfl trivial ?_
      have r2 : xRT T t (xm_up K 43 7 (nI (i + 1))) := xRT_fr hRJ (by rw [xm_up_ne (Or.inr (by decide)), k2 1 (by decide)]) (by rw [xm_up_o (by decide), k1 42 (by decide) (by omega)])
      refine xw_call xb_50 rfl rfl rfl rfl rfl (Or.inr ⟨_, _, rfl, rfl⟩) (c_letter (I := (xm_up K 43 7 (nI (i + 1)))) (a := (xrp T t (xsp T t p i) 5)) r2 (by rw [xm_up_ne (Or.inr (by decide))]; exact k3) rl) ?_
      rintro _ _ ⟨rfl, rfl⟩
      refine xw_at (f' := (45, [.ref 43, .float 0], [.int (xlC T t (xrp T t (xsp T t p i) 5))])) (h' := (xS b, xm_up (xm_up K 43 7 (nI (i + 1))) 43 2 (nI (xsk T t (xrp T t (xsp T t p i) 5))), L, xP b)) rfl rfl ?_
      refine xw_go xb_50 4 (f1 := (if ¬ (xlC T t (xrp T t (xsp T t p i) 5)) = (-1) then 53 else 51, [.ref 43, .int (xlC T t (xrp T t (xsp T t p i) 5))], [])) (h1 := (xS b, xm_up (xm_up K 43 7 (nI (i + 1))) 43 2 (nI (xsk T t (xrp T t (xsp T t p i) 5))), L, xP b)) rfl trivial ?_
      refine xw_if (fun c_48 => ?_) (fun c_48 => ?_)
      · skip
        refine xw_go xb_50 3 (f1 := (if ¬ (xlC T t (xrp T t (xsp T t p i) 5)) = 44 then 67 else 59, [.ref 43, .int (xlC T t (xrp T t (xsp T t p i) 5))], [])) (h1 := (xS b, xm_up (xm_up K 43 7 (nI (i + 1))) 43 2 (nI (xsk T t (xrp T t (xsp T t p i) 5))), L, xP b)) rfl trivial ?_
        refine xw_if (fun c_56 => ?_) (fun c_56 => ?_)
        · skip
          exfalso
          first | exact c_56 (e44.mpr z2) | (rw [Classical.not_not, xl_5, nI_eq (by omega) (by omega)] at c_64; omega)
        · skip
          refine xw_go xb_50 2 (f1 := (63, [.ref 43, .int (xlC T t (xrp T t (xsp T t p i) 5))], [.int ((xm_up (xm_up K 43 7 (nI (i + 1))) 43 2 (nI (xsk T t (xrp T t (xsp T t p i) 5)))) 43 7)])) (h1 := (xS b, xm_up (xm_up K 43 7 (nI (i + 1))) 43 2 (nI (xsk T t (xrp T t (xsp T t p i) 5))), L, xP b)) rfl ⟨rfl, trivial⟩ ?_
          refine xw_cong (l' := [.ref 43, .int (xlC T t (xrp T t (xsp T t p i) 5))]) (st' := [.int (nI (i + 1))]) (h' := (xS b, xm_up (xm_up K 43 7 (nI (i + 1))) 43 2 (nI (xsk T t (xrp T t (xsp T t p i) 5))), L, xP b)) rfl (show ([.int ((xm_up (xm_up K 43 7 (nI (i + 1))) 43 2 (nI (xsk T t (xrp T t (xsp T t p i) 5)))) 43 7)] : List Value) = [.int (nI (i + 1))] from ?_) rfl ?_
          · rw [xm_up_ne (Or.inr (by decide)), xm_up_at]
          refine xw_go xb_50 2 (f1 := (if ¬ (nI (i + 1)) = 5 then 69 else 67, [.ref 43, .int (xlC T t (xrp T t (xsp T t p i) 5))], [])) (h1 := (xS b, xm_up (xm_up K 43 7 (nI (i + 1))) 43 2 (nI (xsk T t (xrp T t (xsp T t p i) 5))), L, xP b)) rfl trivial ?_
          refine xw_if (fun c_64 => ?_) (fun c_64 => ?_)
          · skip
            refine xw_go xb_50 7 (f1 := (5, [.ref 43, .int (xlC T t (xrp T t (xsp T t p i) 5))], [])) (h1 := (xS b, xm_up (xm_up (xm_up K 43 7 (nI (i + 1))) 43 2 (nI (xsk T t (xrp T t (xsp T t p i) 5)))) 43 2 (((xm_up (xm_up K 43 7 (nI (i + 1))) 43 2 (nI (xsk T t (xrp T t (xsp T t p i) 5)))) 43 2) + 1), L, xP b)) rfl ⟨rfl, rfl, trivial⟩ ?_
            refine xw_fg (l0 := [.ref 43, .float 0]) ⟨Or.inr rfl, Or.inl rfl, trivial⟩ ?_
            refine xw_cong rfl rfl rfl (ih _ ⟨_, rfl, fun a h1 h2 => ?_, ?_, ?_, ?_, ?_, ?_, fun j hj f hf => ?_⟩)
            · rw [xm_up_o h1, xm_up_o h1, xm_up_o h1, k1 a h1 (by omega)]
              exact j1 a h1 h2
            · rw [xm_up_ne (Or.inr (by decide)), xm_up_ne (Or.inr (by decide)), xm_up_ne (Or.inr (by decide)), k2 1 (by decide)]
              exact j2
            · rw [xm_up_ne (Or.inr (by decide)), xm_up_ne (Or.inr (by decide)), xm_up_ne (Or.inr (by decide)), k2 3 (by decide)]
              exact j3
            · rw [xm_up_ne (Or.inr (by decide)), xm_up_ne (Or.inr (by decide)), xm_up_ne (Or.inr (by decide)), k2 4 (by decide)]
              exact j4
            · rw [xm_up_at, xm_up_at, nI_1]
              rfl
            · rw [xm_up_ne (Or.inr (by decide)), xm_up_ne (Or.inr (by decide)), xm_up_at]
            · rw [xm_up_o (by omega), xm_up_o (by omega), xm_up_o (by omega)]
              by_cases e : j = i
              · subst e
                exact k4 f hf
              · rw [k1 _ (by omega) (by omega)]
                exact j7 j (by omega) f hf
          · skip
            exfalso
            first | exact c_56 (e44.mpr z2) | (rw [Classical.not_not, xl_5, nI_eq (by omega) (by omega)] at c_64; omega)
      · skip
        exfalso
        have := em1.mp (Classical.not_not.mp c_48)
        omega
  · obtain ⟨J, rfl, j1, j2, j3, j4, j5, j6, j7⟩ := hV
    have hRJ : xRT T t J := xRT_fr hR j2 (j1 42 (by decide) (by decide))
    have sl := xsp_le hp K0 hc
    have em1 : xlC T t (xrp T t (xsp T t p K0) 5) = -1 ↔ xlt T t (xrp T t (xsp T t p K0) 5) = 0 := xlC_m1 hR.2.1
    have e44 : xlC T t (xrp T t (xsp T t p K0) 5) = 44 ↔ xlt T t (xrp T t (xsp T t p K0) 5) = 44 := xlC_eq hR.2.1 (by decide) (by decide)
    obtain ⟨z1, z2⟩ := hg
    refine xw_go xb_50 2 (f1 := (9, [.ref 43, .float 0], [.int (J 43 7)])) (h1 := (xS b, J, L, xP b)) rfl ⟨rfl, trivial⟩ ?_
    refine xw_cong (l' := [.ref 43, .float 0]) (st' := [.int (nI K0)]) (h' := (xS b, J, L, xP b)) rfl (show ([.int (J 43 7)] : List Value) = [.int (nI K0)] from ?_) rfl ?_
    · rw [j6]
    refine xw_go xb_50 2 (f1 := (if 5 ≤ (nI K0) then 82 else 13, [.ref 43, .float 0], [])) (h1 := (xS b, J, L, xP b)) rfl trivial ?_
    refine xw_if (fun c_10 => ?_) (fun c_10 => ?_)
    · skip
      exfalso
      try simp only [xB_dec, Classical.not_not] at c_10
      try simp (disch := omega) only [xt_eq, xt_lt, xt_le, xkt_0, xkt_1, xkt_2, xkt_3, xkt_4, xkt_5, xkt_6, xkt_7, xkt_8, xkt_9, xkt_10, xkt_11, xkt_12, xkt_13, xkt_14, xkt_16, xkt_20, xkt_24, xkt_31, xkt_32, xkt_40, xkt_44, xkt_47, xkt_48, xkt_57, xkt_59, xkt_60, xkt_63, xkt_64, xkt_65, xkt_72, xkt_95, xkt_99, xkt_100, xkt_101, xkt_103, xkt_110, xkt_112, xkt_113, xkt_114, xkt_119, xkt_126, xkt_159, xkt_576, xkt_999, xkt_9999, xkt_65536, xkt_999999, xkt_m1, xkt_m2, xkt_m3, xkt_m4, xkt_m11, xkt_m12, xkt_m13, xkt_m14, xkt_m20, xjt_0, xjt_1, xjt_2, xjt_3, xjt_4, xjt_5, xjt_6, xjt_7, xjt_8, xjt_9, xjt_10, xjt_11, xjt_12, xjt_13, xjt_14, xjt_16, xjt_20, xjt_24, xjt_31, xjt_32, xjt_40, xjt_44, xjt_47, xjt_48, xjt_57, xjt_59, xjt_60, xjt_63, xjt_64, xjt_65, xjt_72, xjt_95, xjt_99, xjt_100, xjt_101, xjt_103, xjt_110, xjt_112, xjt_113, xjt_114, xjt_119, xjt_126, xjt_159, xjt_576, xjt_999, xjt_9999, xjt_65536, xjt_999999, xt64, xt_n, not_true_eq_false, not_false_eq_true, Classical.not_not] at c_10
      all_goals omega
    · skip
      refine xw_go xb_50 5 (f1 := (22, [.ref 43, .float 0], [.int (J 43 7), .ref 45, .ref 43])) (h1 := (xS b, J, L, xP b)) rfl ⟨rfl, rfl, trivial⟩ ?_
      refine xw_cong (l' := [.ref 43, .float 0]) (st' := [.int (nI K0), .ref 45, .ref 43]) (h' := (xS b, J, L, xP b)) rfl (show ([.int (J 43 7), .ref 45, .ref 43] : List Value) = [.int (nI K0), .ref 45, .ref 43] from ?_) rfl ?_
      · rw [j6]
      refine xw_go xb_50 1 (f1 := (23, [.ref 43, .float 0], [xm_o (xP b 45 (nI K0).toNatClampNeg), .ref 43])) (h1 := (xS b, J, L, xP b)) rfl ⟨(xn_ar (n := K0) (N := 5) rfl (by omega) (by decide)), ⟨Nat.le_of_ble_eq_true rfl, Nat.le_of_ble_eq_true rfl⟩, trivial⟩ ?_
      refine xw_cong (l' := [.ref 43, .float 0]) (st' := [.ref (46 + K0), .ref 43]) (h' := (xS b, J, L, xP b)) rfl (show ([xm_o (xP b 45 (nI K0).toNatClampNeg), .ref 43] : List Value) = [.ref (46 + K0), .ref 43] from ?_) rfl ?_
      · rw [xn_cl (by omega), xP_45 (by omega)]
        rfl
      refine xw_call xb_50 rfl rfl rfl rfl rfl (Or.inr ⟨_, _, rfl, rfl⟩) (c_sprT (I := J) hRJ j3 j4 j5 sl bR bc (by omega) z1) ?_
      rintro _ _ ⟨rfl, K, rfl, k1, k2, k3, k4⟩
      have rl : (xrp T t (xsp T t p K0) 5) ≤ t := xr5_le (R := R) (c := c) sl (fun j hj => xld_t 5 j (by have q := z1; unfold xsm at q; rw [q]; exact hj)) 5 (Nat.le_refl 5)
      refine xw_at (f' := (26, [.ref 43, .float 0], [.int 1])) (h' := (xS b, K, L, xP b)) rfl rfl ?_
      refine xw_go xb_50 7 (f1 := (41, [.ref 43, .float 0], [])) (h1 := (xS b, xm_up K 43 7 ((K 43 7) + 1), L, xP b)) rfl ⟨rfl, rfl, trivial⟩ ?_
      refine xw_at (f' := (41, [.ref 43, .float 0], [])) (h' := (xS b, xm_up K 43 7 (nI (K0 + 1)), L, xP b)) rfl (show (xS b, xm_up K 43 7 ((K 43 7) + 1), L, xP b) = (xS b, xm_up K 43 7 (nI (K0 + 1)), L, xP b) from ?_) ?_
      · rw [k2 7 (by decide), j6, nI_1]
      refine xw_go xb_50 1 (f1 := (42, [.ref 43, .float 0], [.ref 43])) (h1 := (xS b, xm_up K 43 7 (nI (K0 + 1)), L, xP b)) rfl trivial ?_
      have r2 : xRT T t (xm_up K 43 7 (nI (K0 + 1))) := xRT_fr hRJ (by rw [xm_up_ne (Or.inr (by decide)), k2 1 (by decide)]) (by rw [xm_up_o (by decide), k1 42 (by decide) (by omega)])
      refine xw_call xb_50 rfl rfl rfl rfl rfl (Or.inr ⟨_, _, rfl, rfl⟩) (c_letter (I := (xm_up K 43 7 (nI (K0 + 1)))) (a := (xrp T t (xsp T t p K0) 5)) r2 (by rw [xm_up_ne (Or.inr (by decide))]; exact k3) rl) ?_
      rintro _ _ ⟨rfl, rfl⟩
      refine xw_at (f' := (45, [.ref 43, .float 0], [.int (xlC T t (xrp T t (xsp T t p K0) 5))])) (h' := (xS b, xm_up (xm_up K 43 7 (nI (K0 + 1))) 43 2 (nI (xsk T t (xrp T t (xsp T t p K0) 5))), L, xP b)) rfl rfl ?_
      refine xw_go xb_50 4 (f1 := (if ¬ (xlC T t (xrp T t (xsp T t p K0) 5)) = (-1) then 53 else 51, [.ref 43, .int (xlC T t (xrp T t (xsp T t p K0) 5))], [])) (h1 := (xS b, xm_up (xm_up K 43 7 (nI (K0 + 1))) 43 2 (nI (xsk T t (xrp T t (xsp T t p K0) 5))), L, xP b)) rfl trivial ?_
      refine xw_if (fun c_48 => ?_) (fun c_48 => ?_)
      · skip
        exfalso
        exact c_48 (em1.mpr z2)
      · skip
        refine xw_go xb_50 1 (f1 := (52, [.ref 43, .int (xlC T t (xrp T t (xsp T t p K0) 5))], [.int 1])) (h1 := (xS b, xm_up (xm_up K 43 7 (nI (K0 + 1))) 43 2 (nI (xsk T t (xrp T t (xsp T t p K0) 5))), L, xP b)) rfl trivial ?_
        refine xw_ret xb_50 rfl rfl ?_ ?_
        · first | exact Or.inl rfl | exact Or.inr rfl
        refine ⟨rfl, _, rfl, fun a h1 h2 => ?_, ?_, ?_, ?_, fun j hj f hf => ?_⟩
        · rw [xm_up_o h1, xm_up_o h1, k1 a h1 (by omega)]
          exact j1 a h1 h2
        · rw [xm_up_ne (Or.inr (by decide)), xm_up_ne (Or.inr (by decide)), k2 3 (by decide)]
          exact j3
        · rw [xm_up_ne (Or.inr (by decide)), xm_up_ne (Or.inr (by decide)), k2 4 (by decide)]
          exact j4
        · rw [xm_up_ne (Or.inr (by decide)), xm_up_at]
        · rw [xm_up_o (by omega), xm_up_o (by omega)]
          by_cases e : j = K0
          · subst e
            exact k4 f hf
          · rw [k1 _ (by omega) (by omega)]
            exact j7 j (by omega) f hf

theorem c_sprsB {d : Nat} {b : Bool} {I : Nat → Nat → Int32} {L : Nat → Nat → Int64} {T : Nat → Nat} {t : Nat} (hR : xRT T t I) {R c p : Nat} (h3 : I 43 3 = nI R) (h4 : I 43 4 = nI c) (h2 : I 43 2 = nI p) (hp : p ≤ t) (bR : 2 ≤ R ∧ R ≤ 8) (bc : 2 ≤ c ∧ c ≤ 8) {K0 : Nat} (hK0 : K0 ≤ 4) (hc : ∀ j, j < K0 → xzc T t R c p j) (hn : ¬ xzc T t R c p K0) (hg : ¬ xzg T t R c p K0) : xm_Z (d + 4) 50 [.ref 43] (xS b, I, L, xP b) (fun rz hz => rz = some (.int 0) ∧ ∃ I', hz = (xS b, I', L, xP b) ∧ (∀ a, a ≠ 43 → a < 46 ∨ 51 ≤ a → I' a = I a) ∧ I' 43 2 = nI (xsk T t (xrp T t (xsp T t p K0) (xsm T t R c p K0)))) := by
  refine xw_S xb_50 (l := [.ref 43, .float 0]) (Nat.le_of_ble_eq_true rfl) rfl ?_
  refine xw_go xb_50 3 (f1 := (5, [.ref 43, .float 0], [])) (h1 := (xS b, xm_up I 43 7 0, L, xP b)) rfl ⟨rfl, trivial⟩ ?_
  refine xw_loopP K0 (fun i => (5, [.ref 43, .float 0], [])) (fun i h => ∃ J, h = (xS b, J, L, xP b) ∧ (∀ a, a ≠ 43 → a < 46 ∨ 51 ≤ a → J a = I a) ∧ J 43 1 = I 43 1 ∧ J 43 3 = nI R ∧ J 43 4 = nI c ∧ J 43 2 = nI (xsp T t p i) ∧ J 43 7 = nI i ∧ ∀ j, j < i → ∀ f, f < 4 → J (46 + j) f = nI (xzd T t c p j f)) (fun i h hk hV ih => ?_) (fun h hV => ?_) 0 _ (Nat.zero_le _) ⟨_, rfl, fun a h1 h2 => xm_up_o h1, xm_up_ne (Or.inr (by decide)), by rw [xm_up_ne (Or.inr (by decide))]; exact h3, by rw [xm_up_ne (Or.inr (by decide))]; exact h4, by rw [xm_up_ne (Or.inr (by decide))]; exact h2, xm_up_at _ _ _ _, fun j hj => absurd hj (Nat.not_lt_zero j)⟩
  · obtain ⟨J, rfl, j1, j2, j3, j4, j5, j6, j7⟩ := hV
    have hRJ : xRT T t J := xRT_fr hR j2 (j1 42 (by decide) (by decide))
    obtain ⟨z1, z2, z3⟩ := hc i hk
    have sl := xsp_le hp i (fun j hj => hc j (by omega))
    have em1 : xlC T t (xrp T t (xsp T t p i) 5) = -1 ↔ xlt T t (xrp T t (xsp T t p i) 5) = 0 := xlC_m1 hR.2.1
    have e44 : xlC T t (xrp T t (xsp T t p i) 5) = 44 ↔ xlt T t (xrp T t (xsp T t p i) 5) = 44 := xlC_eq hR.2.1 (by decide) (by decide)
    refine xw_go xb_50 2 (f1 := (9, [.ref 43, .float 0], [.int (J 43 7)])) (h1 := (xS b, J, L, xP b)) rfl ⟨rfl, trivial⟩ ?_
    refine xw_cong (l' := [.ref 43, .float 0]) (st' := [.int (nI i)]) (h' := (xS b, J, L, xP b)) rfl (show ([.int (J 43 7)] : List Value) = [.int (nI i)] from ?_) rfl ?_
    · rw [j6]
    refine xw_go xb_50 2 (f1 := (if 5 ≤ (nI i) then 82 else 13, [.ref 43, .float 0], [])) (h1 := (xS b, J, L, xP b)) rfl trivial ?_
    refine xw_if (fun c_10 => ?_) (fun c_10 => ?_)
    · skip
      exfalso
      try simp only [xB_dec, Classical.not_not] at c_10
      try simp (disch := omega) only [xt_eq, xt_lt, xt_le, xkt_0, xkt_1, xkt_2, xkt_3, xkt_4, xkt_5, xkt_6, xkt_7, xkt_8, xkt_9, xkt_10, xkt_11, xkt_12, xkt_13, xkt_14, xkt_16, xkt_20, xkt_24, xkt_31, xkt_32, xkt_40, xkt_44, xkt_47, xkt_48, xkt_57, xkt_59, xkt_60, xkt_63, xkt_64, xkt_65, xkt_72, xkt_95, xkt_99, xkt_100, xkt_101, xkt_103, xkt_110, xkt_112, xkt_113, xkt_114, xkt_119, xkt_126, xkt_159, xkt_576, xkt_999, xkt_9999, xkt_65536, xkt_999999, xkt_m1, xkt_m2, xkt_m3, xkt_m4, xkt_m11, xkt_m12, xkt_m13, xkt_m14, xkt_m20, xjt_0, xjt_1, xjt_2, xjt_3, xjt_4, xjt_5, xjt_6, xjt_7, xjt_8, xjt_9, xjt_10, xjt_11, xjt_12, xjt_13, xjt_14, xjt_16, xjt_20, xjt_24, xjt_31, xjt_32, xjt_40, xjt_44, xjt_47, xjt_48, xjt_57, xjt_59, xjt_60, xjt_63, xjt_64, xjt_65, xjt_72, xjt_95, xjt_99, xjt_100, xjt_101, xjt_103, xjt_110, xjt_112, xjt_113, xjt_114, xjt_119, xjt_126, xjt_159, xjt_576, xjt_999, xjt_9999, xjt_65536, xjt_999999, xt64, xt_n, not_true_eq_false, not_false_eq_true, Classical.not_not] at c_10
      all_goals omega
    · skip
      refine xw_go xb_50 5 (f1 := (22, [.ref 43, .float 0], [.int (J 43 7), .ref 45, .ref 43])) (h1 := (xS b, J, L, xP b)) rfl ⟨rfl, rfl, trivial⟩ ?_
      refine xw_cong (l' := [.ref 43, .float 0]) (st' := [.int (nI i), .ref 45, .ref 43]) (h' := (xS b, J, L, xP b)) rfl (show ([.int (J 43 7), .ref 45, .ref 43] : List Value) = [.int (nI i), .ref 45, .ref 43] from ?_) rfl ?_
      · rw [j6]
      refine xw_go xb_50 1 (f1 := (23, [.ref 43, .float 0], [xm_o (xP b 45 (nI i).toNatClampNeg), .ref 43])) (h1 := (xS b, J, L, xP b)) rfl ⟨(xn_ar (n := i) (N := 5) rfl (by omega) (by decide)), ⟨Nat.le_of_ble_eq_true rfl, Nat.le_of_ble_eq_true rfl⟩, trivial⟩ ?_
      refine xw_cong (l' := [.ref 43, .float 0]) (st' := [.ref (46 + i), .ref 43]) (h' := (xS b, J, L, xP b)) rfl (show ([xm_o (xP b 45 (nI i).toNatClampNeg), .ref 43] : List Value) = [.ref (46 + i), .ref 43] from ?_) rfl ?_
      · rw [xn_cl (by omega), xP_45 (by omega)]
        rfl
      refine xw_call xb_50 rfl rfl rfl rfl rfl (Or.inr ⟨_, _, rfl, rfl⟩) (c_sprT (I := J) hRJ j3 j4 j5 sl bR bc (by omega) z1) ?_
      rintro _ _ ⟨rfl, K, rfl, k1, k2, k3, k4⟩
      have rl : (xrp T t (xsp T t p i) 5) ≤ t := xr5_le (R := R) (c := c) sl (fun j hj => xld_t 5 j (by have q := z1; unfold xsm at q; rw [q]; exact hj)) 5 (Nat.le_refl 5)
      refine xw_at (f' := (26, [.ref 43, .float 0], [.int 1])) (h' := (xS b, K, L, xP b)) rfl rfl ?_
      refine xw_go xb_50 7 (f1 := (41, [.ref 43, .float 0], [])) (h1 := (xS b, xm_up K 43 7 ((K 43 7) + 1), L, xP b)) rfl ⟨rfl, rfl, trivial⟩ ?_
      refine xw_at (f' := (41, [.ref 43, .float 0], [])) (h' := (xS b, xm_up K 43 7 (nI (i + 1)), L, xP b)) rfl (show (xS b, xm_up K 43 7 ((K 43 7) + 1), L, xP b) = (xS b, xm_up K 43 7 (nI (i + 1)), L, xP b) from ?_) ?_
      · rw [k2 7 (by decide), j6, nI_1]
      refine xw_go xb_50 1 (f1 := (42, [.ref 43, .float 0], [.ref 43])) (h1 := (xS b, xm_up K 43 7 (nI (i + 1)), L, xP b)) rfl trivial ?_
      have r2 : xRT T t (xm_up K 43 7 (nI (i + 1))) := xRT_fr hRJ (by rw [xm_up_ne (Or.inr (by decide)), k2 1 (by decide)]) (by rw [xm_up_o (by decide), k1 42 (by decide) (by omega)])
      refine xw_call xb_50 rfl rfl rfl rfl rfl (Or.inr ⟨_, _, rfl, rfl⟩) (c_letter (I := (xm_up K 43 7 (nI (i + 1)))) (a := (xrp T t (xsp T t p i) 5)) r2 (by rw [xm_up_ne (Or.inr (by decide))]; exact k3) rl) ?_
      rintro _ _ ⟨rfl, rfl⟩
      refine xw_at (f' := (45, [.ref 43, .float 0], [.int (xlC T t (xrp T t (xsp T t p i) 5))])) (h' := (xS b, xm_up (xm_up K 43 7 (nI (i + 1))) 43 2 (nI (xsk T t (xrp T t (xsp T t p i) 5))), L, xP b)) rfl rfl ?_
      refine xw_go xb_50 4 (f1 := (if ¬ (xlC T t (xrp T t (xsp T t p i) 5)) = (-1) then 53 else 51, [.ref 43, .int (xlC T t (xrp T t (xsp T t p i) 5))], [])) (h1 := (xS b, xm_up (xm_up K 43 7 (nI (i + 1))) 43 2 (nI (xsk T t (xrp T t (xsp T t p i) 5))), L, xP b)) rfl trivial ?_
      refine xw_if (fun c_48 => ?_) (fun c_48 => ?_)
      · skip
        refine xw_go xb_50 3 (f1 := (if ¬ (xlC T t (xrp T t (xsp T t p i) 5)) = 44 then 67 else 59, [.ref 43, .int (xlC T t (xrp T t (xsp T t p i) 5))], [])) (h1 := (xS b, xm_up (xm_up K 43 7 (nI (i + 1))) 43 2 (nI (xsk T t (xrp T t (xsp T t p i) 5))), L, xP b)) rfl trivial ?_
        refine xw_if (fun c_56 => ?_) (fun c_56 => ?_)
        · skip
          exfalso
          first | exact c_56 (e44.mpr z2) | (rw [Classical.not_not, xl_5, nI_eq (by omega) (by omega)] at c_64; omega)
        · skip
          refine xw_go xb_50 2 (f1 := (63, [.ref 43, .int (xlC T t (xrp T t (xsp T t p i) 5))], [.int ((xm_up (xm_up K 43 7 (nI (i + 1))) 43 2 (nI (xsk T t (xrp T t (xsp T t p i) 5)))) 43 7)])) (h1 := (xS b, xm_up (xm_up K 43 7 (nI (i + 1))) 43 2 (nI (xsk T t (xrp T t (xsp T t p i) 5))), L, xP b)) rfl ⟨rfl, trivial⟩ ?_
          refine xw_cong (l' := [.ref 43, .int (xlC T t (xrp T t (xsp T t p i) 5))]) (st' := [.int (nI (i + 1))]) (h' := (xS b, xm_up (xm_up K 43 7 (nI (i + 1))) 43 2 (nI (xsk T t (xrp T t (xsp T t p i) 5))), L, xP b)) rfl (show ([.int ((xm_up (xm_up K 43 7 (nI (i + 1))) 43 2 (nI (xsk T t (xrp T t (xsp T t p i) 5)))) 43 7)] : List Value) = [.int (nI (i + 1))] from ?_) rfl ?_
          · rw [xm_up_ne (Or.inr (by decide)), xm_up_at]
          refine xw_go xb_50 2 (f1 := (if ¬ (nI (i + 1)) = 5 then 69 else 67, [.ref 43, .int (xlC T t (xrp T t (xsp T t p i) 5))], [])) (h1 := (xS b, xm_up (xm_up K 43 7 (nI (i + 1))) 43 2 (nI (xsk T t (xrp T t (xsp T t p i) 5))), L, xP b)) rfl trivial ?_
          refine xw_if (fun c_64 => ?_) (fun c_64 => ?_)
          · skip
            refine xw_go xb_50 7 (f1 := (5, [.ref 43, .int (xlC T t (xrp T t (xsp T t p i) 5))], [])) (h1 := (xS b, xm_up (xm_up (xm_up K 43 7 (nI (i + 1))) 43 2 (nI (xsk T t (xrp T t (xsp T t p i) 5)))) 43 2 (((xm_up (xm_up K 43 7 (nI (i + 1))) 43 2 (nI (xsk T t (xrp T t (xsp T t p i) 5)))) 43 2) + 1), L, xP b)) rfl ⟨rfl, rfl, trivial⟩ ?_
            refine xw_fg (l0 := [.ref 43, .float 0]) ⟨Or.inr rfl, Or.inl rfl, trivial⟩ ?_
            refine xw_cong rfl rfl rfl (ih _ ⟨_, rfl, fun a h1 h2 => ?_, ?_, ?_, ?_, ?_, ?_, fun j hj f hf => ?_⟩)
            · rw [xm_up_o h1, xm_up_o h1, xm_up_o h1, k1 a h1 (by omega)]
              exact j1 a h1 h2
            · rw [xm_up_ne (Or.inr (by decide)), xm_up_ne (Or.inr (by decide)), xm_up_ne (Or.inr (by decide)), k2 1 (by decide)]
              exact j2
            · rw [xm_up_ne (Or.inr (by decide)), xm_up_ne (Or.inr (by decide)), xm_up_ne (Or.inr (by decide)), k2 3 (by decide)]
              exact j3
            · rw [xm_up_ne (Or.inr (by decide)), xm_up_ne (Or.inr (by decide)), xm_up_ne (Or.inr (by decide)), k2 4 (by decide)]
              exact j4
            · rw [xm_up_at, xm_up_at, nI_1]
              rfl
            · rw [xm_up_ne (Or.inr (by decide)), xm_up_ne (Or.inr (by decide)), xm_up_at]
            · rw [xm_up_o (by omega), xm_up_o (by omega), xm_up_o (by omega)]
              by_cases e : j = i
              · subst e
                exact k4 f hf
              · rw [k1 _ (by omega) (by omega)]
                exact j7 j (by omega) f hf
          · skip
            exfalso
            first | exact c_56 (e44.mpr z2) | (rw [Classical.not_not, xl_5, nI_eq (by omega) (by omega)] at c_64; omega)
      · skip
        exfalso
        have := em1.mp (Classical.not_not.mp c_48)
        omega
  · obtain ⟨J, rfl, j1, j2, j3, j4, j5, j6, j7⟩ := hV
    have hRJ : xRT T t J := xRT_fr hR j2 (j1 42 (by decide) (by decide))
    have sl := xsp_le hp K0 hc
    have em1 : xlC T t (xrp T t (xsp T t p K0) 5) = -1 ↔ xlt T t (xrp T t (xsp T t p K0) 5) = 0 := xlC_m1 hR.2.1
    have e44 : xlC T t (xrp T t (xsp T t p K0) 5) = 44 ↔ xlt T t (xrp T t (xsp T t p K0) 5) = 44 := xlC_eq hR.2.1 (by decide) (by decide)
    by_cases z5 : xsm T t R c p K0 = 5
    · skip
      refine xw_go xb_50 2 (f1 := (9, [.ref 43, .float 0], [.int (J 43 7)])) (h1 := (xS b, J, L, xP b)) rfl ⟨rfl, trivial⟩ ?_
      refine xw_cong (l' := [.ref 43, .float 0]) (st' := [.int (nI K0)]) (h' := (xS b, J, L, xP b)) rfl (show ([.int (J 43 7)] : List Value) = [.int (nI K0)] from ?_) rfl ?_
      · rw [j6]
      refine xw_go xb_50 2 (f1 := (if 5 ≤ (nI K0) then 82 else 13, [.ref 43, .float 0], [])) (h1 := (xS b, J, L, xP b)) rfl trivial ?_
      refine xw_if (fun c_10 => ?_) (fun c_10 => ?_)
      · skip
        exfalso
        try simp only [xB_dec, Classical.not_not] at c_10
        try simp (disch := omega) only [xt_eq, xt_lt, xt_le, xkt_0, xkt_1, xkt_2, xkt_3, xkt_4, xkt_5, xkt_6, xkt_7, xkt_8, xkt_9, xkt_10, xkt_11, xkt_12, xkt_13, xkt_14, xkt_16, xkt_20, xkt_24, xkt_31, xkt_32, xkt_40, xkt_44, xkt_47, xkt_48, xkt_57, xkt_59, xkt_60, xkt_63, xkt_64, xkt_65, xkt_72, xkt_95, xkt_99, xkt_100, xkt_101, xkt_103, xkt_110, xkt_112, xkt_113, xkt_114, xkt_119, xkt_126, xkt_159, xkt_576, xkt_999, xkt_9999, xkt_65536, xkt_999999, xkt_m1, xkt_m2, xkt_m3, xkt_m4, xkt_m11, xkt_m12, xkt_m13, xkt_m14, xkt_m20, xjt_0, xjt_1, xjt_2, xjt_3, xjt_4, xjt_5, xjt_6, xjt_7, xjt_8, xjt_9, xjt_10, xjt_11, xjt_12, xjt_13, xjt_14, xjt_16, xjt_20, xjt_24, xjt_31, xjt_32, xjt_40, xjt_44, xjt_47, xjt_48, xjt_57, xjt_59, xjt_60, xjt_63, xjt_64, xjt_65, xjt_72, xjt_95, xjt_99, xjt_100, xjt_101, xjt_103, xjt_110, xjt_112, xjt_113, xjt_114, xjt_119, xjt_126, xjt_159, xjt_576, xjt_999, xjt_9999, xjt_65536, xjt_999999, xt64, xt_n, not_true_eq_false, not_false_eq_true, Classical.not_not] at c_10
        all_goals omega
      · skip
        refine xw_go xb_50 5 (f1 := (22, [.ref 43, .float 0], [.int (J 43 7), .ref 45, .ref 43])) (h1 := (xS b, J, L, xP b)) rfl ⟨rfl, rfl, trivial⟩ ?_
        refine xw_cong (l' := [.ref 43, .float 0]) (st' := [.int (nI K0), .ref 45, .ref 43]) (h' := (xS b, J, L, xP b)) rfl (show ([.int (J 43 7), .ref 45, .ref 43] : List Value) = [.int (nI K0), .ref 45, .ref 43] from ?_) rfl ?_
        · rw [j6]
        refine xw_go xb_50 1 (f1 := (23, [.ref 43, .float 0], [xm_o (xP b 45 (nI K0).toNatClampNeg), .ref 43])) (h1 := (xS b, J, L, xP b)) rfl ⟨(xn_ar (n := K0) (N := 5) rfl (by omega) (by decide)), ⟨Nat.le_of_ble_eq_true rfl, Nat.le_of_ble_eq_true rfl⟩, trivial⟩ ?_
        refine xw_cong (l' := [.ref 43, .float 0]) (st' := [.ref (46 + K0), .ref 43]) (h' := (xS b, J, L, xP b)) rfl (show ([xm_o (xP b 45 (nI K0).toNatClampNeg), .ref 43] : List Value) = [.ref (46 + K0), .ref 43] from ?_) rfl ?_
        · rw [xn_cl (by omega), xP_45 (by omega)]
          rfl
        refine xw_call xb_50 rfl rfl rfl rfl rfl (Or.inr ⟨_, _, rfl, rfl⟩) (c_sprT (I := J) hRJ j3 j4 j5 sl bR bc (by omega) z5) ?_
        rintro _ _ ⟨rfl, K, rfl, k1, k2, k3, k4⟩
        have rl : (xrp T t (xsp T t p K0) 5) ≤ t := xr5_le (R := R) (c := c) sl (fun j hj => xld_t 5 j (by have q := z5; unfold xsm at q; rw [q]; exact hj)) 5 (Nat.le_refl 5)
        refine xw_at (f' := (26, [.ref 43, .float 0], [.int 1])) (h' := (xS b, K, L, xP b)) rfl rfl ?_
        refine xw_go xb_50 7 (f1 := (41, [.ref 43, .float 0], [])) (h1 := (xS b, xm_up K 43 7 ((K 43 7) + 1), L, xP b)) rfl ⟨rfl, rfl, trivial⟩ ?_
        refine xw_at (f' := (41, [.ref 43, .float 0], [])) (h' := (xS b, xm_up K 43 7 (nI (K0 + 1)), L, xP b)) rfl (show (xS b, xm_up K 43 7 ((K 43 7) + 1), L, xP b) = (xS b, xm_up K 43 7 (nI (K0 + 1)), L, xP b) from ?_) ?_
        · rw [k2 7 (by decide), j6, nI_1]
        refine xw_go xb_50 1 (f1 := (42, [.ref 43, .float 0], [.ref 43])) (h1 := (xS b, xm_up K 43 7 (nI (K0 + 1)), L, xP b)) rfl trivial ?_
        have r2 : xRT T t (xm_up K 43 7 (nI (K0 + 1))) := xRT_fr hRJ (by rw [xm_up_ne (Or.inr (by decide)), k2 1 (by decide)]) (by rw [xm_up_o (by decide), k1 42 (by decide) (by omega)])
        refine xw_call xb_50 rfl rfl rfl rfl rfl (Or.inr ⟨_, _, rfl, rfl⟩) (c_letter (I := (xm_up K 43 7 (nI (K0 + 1)))) (a := (xrp T t (xsp T t p K0) 5)) r2 (by rw [xm_up_ne (Or.inr (by decide))]; exact k3) rl) ?_
        rintro _ _ ⟨rfl, rfl⟩
        refine xw_at (f' := (45, [.ref 43, .float 0], [.int (xlC T t (xrp T t (xsp T t p K0) 5))])) (h' := (xS b, xm_up (xm_up K 43 7 (nI (K0 + 1))) 43 2 (nI (xsk T t (xrp T t (xsp T t p K0) 5))), L, xP b)) rfl rfl ?_
        refine xw_go xb_50 4 (f1 := (if ¬ (xlC T t (xrp T t (xsp T t p K0) 5)) = (-1) then 53 else 51, [.ref 43, .int (xlC T t (xrp T t (xsp T t p K0) 5))], [])) (h1 := (xS b, xm_up (xm_up K 43 7 (nI (K0 + 1))) 43 2 (nI (xsk T t (xrp T t (xsp T t p K0) 5))), L, xP b)) rfl trivial ?_
        refine xw_if (fun c_48 => ?_) (fun c_48 => ?_)
        · skip
          refine xw_go xb_50 3 (f1 := (if ¬ (xlC T t (xrp T t (xsp T t p K0) 5)) = 44 then 67 else 59, [.ref 43, .int (xlC T t (xrp T t (xsp T t p K0) 5))], [])) (h1 := (xS b, xm_up (xm_up K 43 7 (nI (K0 + 1))) 43 2 (nI (xsk T t (xrp T t (xsp T t p K0) 5))), L, xP b)) rfl trivial ?_
          refine xw_if (fun c_56 => ?_) (fun c_56 => ?_)
          · skip
            refine xw_go xb_50 1 (f1 := (68, [.ref 43, .int (xlC T t (xrp T t (xsp T t p K0) 5))], [.int 0])) (h1 := (xS b, xm_up (xm_up K 43 7 (nI (K0 + 1))) 43 2 (nI (xsk T t (xrp T t (xsp T t p K0) 5))), L, xP b)) rfl trivial ?_
            refine xw_ret xb_50 rfl rfl ?_ ?_
            · first | exact Or.inl rfl | exact Or.inr rfl
            refine ⟨rfl, _, rfl, fun a h1 h2 => ?_, ?_⟩
            · rw [xm_up_o h1, xm_up_o h1, k1 a h1 (by omega)]
              exact j1 a h1 h2
            · rw [xm_up_at, z5]
          · skip
            refine xw_go xb_50 2 (f1 := (63, [.ref 43, .int (xlC T t (xrp T t (xsp T t p K0) 5))], [.int ((xm_up (xm_up K 43 7 (nI (K0 + 1))) 43 2 (nI (xsk T t (xrp T t (xsp T t p K0) 5)))) 43 7)])) (h1 := (xS b, xm_up (xm_up K 43 7 (nI (K0 + 1))) 43 2 (nI (xsk T t (xrp T t (xsp T t p K0) 5))), L, xP b)) rfl ⟨rfl, trivial⟩ ?_
            refine xw_cong (l' := [.ref 43, .int (xlC T t (xrp T t (xsp T t p K0) 5))]) (st' := [.int (nI (K0 + 1))]) (h' := (xS b, xm_up (xm_up K 43 7 (nI (K0 + 1))) 43 2 (nI (xsk T t (xrp T t (xsp T t p K0) 5))), L, xP b)) rfl (show ([.int ((xm_up (xm_up K 43 7 (nI (K0 + 1))) 43 2 (nI (xsk T t (xrp T t (xsp T t p K0) 5)))) 43 7)] : List Value) = [.int (nI (K0 + 1))] from ?_) rfl ?_
            · rw [xm_up_ne (Or.inr (by decide)), xm_up_at]
            refine xw_go xb_50 2 (f1 := (if ¬ (nI (K0 + 1)) = 5 then 69 else 67, [.ref 43, .int (xlC T t (xrp T t (xsp T t p K0) 5))], [])) (h1 := (xS b, xm_up (xm_up K 43 7 (nI (K0 + 1))) 43 2 (nI (xsk T t (xrp T t (xsp T t p K0) 5))), L, xP b)) rfl trivial ?_
            refine xw_if (fun c_64 => ?_) (fun c_64 => ?_)
            · skip
              exfalso
              rw [Classical.not_not, e44] at c_56
              rw [xl_5, nI_eq (by omega) (by omega)] at c_64
              exact hn ⟨z5, c_56, by omega⟩
            · skip
              refine xw_go xb_50 1 (f1 := (68, [.ref 43, .int (xlC T t (xrp T t (xsp T t p K0) 5))], [.int 0])) (h1 := (xS b, xm_up (xm_up K 43 7 (nI (K0 + 1))) 43 2 (nI (xsk T t (xrp T t (xsp T t p K0) 5))), L, xP b)) rfl trivial ?_
              refine xw_ret xb_50 rfl rfl ?_ ?_
              · first | exact Or.inl rfl | exact Or.inr rfl
              refine ⟨rfl, _, rfl, fun a h1 h2 => ?_, ?_⟩
              · rw [xm_up_o h1, xm_up_o h1, k1 a h1 (by omega)]
                exact j1 a h1 h2
              · rw [xm_up_at, z5]
        · skip
          exfalso
          exact hg ⟨z5, em1.mp (Classical.not_not.mp c_48)⟩
    · have hz5 : xld (xf5 T t R c (xsp T t p K0)) 5 < 5 := by have := xld_le (xf5 T t R c (xsp T t p K0)) 5; unfold xsm at z5; omega
      refine xw_go xb_50 2 (f1 := (9, [.ref 43, .float 0], [.int (J 43 7)])) (h1 := (xS b, J, L, xP b)) rfl ⟨rfl, trivial⟩ ?_
      refine xw_cong (l' := [.ref 43, .float 0]) (st' := [.int (nI K0)]) (h' := (xS b, J, L, xP b)) rfl (show ([.int (J 43 7)] : List Value) = [.int (nI K0)] from ?_) rfl ?_
      · rw [j6]
      refine xw_go xb_50 2 (f1 := (if 5 ≤ (nI K0) then 82 else 13, [.ref 43, .float 0], [])) (h1 := (xS b, J, L, xP b)) rfl trivial ?_
      refine xw_if (fun c_10 => ?_) (fun c_10 => ?_)
      · skip
        exfalso
        try simp only [xB_dec, Classical.not_not] at c_10
        try simp (disch := omega) only [xt_eq, xt_lt, xt_le, xkt_0, xkt_1, xkt_2, xkt_3, xkt_4, xkt_5, xkt_6, xkt_7, xkt_8, xkt_9, xkt_10, xkt_11, xkt_12, xkt_13, xkt_14, xkt_16, xkt_20, xkt_24, xkt_31, xkt_32, xkt_40, xkt_44, xkt_47, xkt_48, xkt_57, xkt_59, xkt_60, xkt_63, xkt_64, xkt_65, xkt_72, xkt_95, xkt_99, xkt_100, xkt_101, xkt_103, xkt_110, xkt_112, xkt_113, xkt_114, xkt_119, xkt_126, xkt_159, xkt_576, xkt_999, xkt_9999, xkt_65536, xkt_999999, xkt_m1, xkt_m2, xkt_m3, xkt_m4, xkt_m11, xkt_m12, xkt_m13, xkt_m14, xkt_m20, xjt_0, xjt_1, xjt_2, xjt_3, xjt_4, xjt_5, xjt_6, xjt_7, xjt_8, xjt_9, xjt_10, xjt_11, xjt_12, xjt_13, xjt_14, xjt_16, xjt_20, xjt_24, xjt_31, xjt_32, xjt_40, xjt_44, xjt_47, xjt_48, xjt_57, xjt_59, xjt_60, xjt_63, xjt_64, xjt_65, xjt_72, xjt_95, xjt_99, xjt_100, xjt_101, xjt_103, xjt_110, xjt_112, xjt_113, xjt_114, xjt_119, xjt_126, xjt_159, xjt_576, xjt_999, xjt_9999, xjt_65536, xjt_999999, xt64, xt_n, not_true_eq_false, not_false_eq_true, Classical.not_not] at c_10
        all_goals omega
      · skip
        refine xw_go xb_50 5 (f1 := (22, [.ref 43, .float 0], [.int (J 43 7), .ref 45, .ref 43])) (h1 := (xS b, J, L, xP b)) rfl ⟨rfl, rfl, trivial⟩ ?_
        refine xw_cong (l' := [.ref 43, .float 0]) (st' := [.int (nI K0), .ref 45, .ref 43]) (h' := (xS b, J, L, xP b)) rfl (show ([.int (J 43 7), .ref 45, .ref 43] : List Value) = [.int (nI K0), .ref 45, .ref 43] from ?_) rfl ?_
        · rw [j6]
        refine xw_go xb_50 1 (f1 := (23, [.ref 43, .float 0], [xm_o (xP b 45 (nI K0).toNatClampNeg), .ref 43])) (h1 := (xS b, J, L, xP b)) rfl ⟨(xn_ar (n := K0) (N := 5) rfl (by omega) (by decide)), ⟨Nat.le_of_ble_eq_true rfl, Nat.le_of_ble_eq_true rfl⟩, trivial⟩ ?_
        refine xw_cong (l' := [.ref 43, .float 0]) (st' := [.ref (46 + K0), .ref 43]) (h' := (xS b, J, L, xP b)) rfl (show ([xm_o (xP b 45 (nI K0).toNatClampNeg), .ref 43] : List Value) = [.ref (46 + K0), .ref 43] from ?_) rfl ?_
        · rw [xn_cl (by omega), xP_45 (by omega)]
          rfl
        refine xw_call xb_50 rfl rfl rfl rfl rfl (Or.inr ⟨_, _, rfl, rfl⟩) (c_sprF (I := J) hRJ j3 j4 j5 sl bR bc (by omega) rfl hz5) ?_
        rintro _ _ ⟨rfl, K, rfl, k1, k2⟩
        refine xw_at (f' := (26, [.ref 43, .float 0], [.int 0])) (h' := (xS b, K, L, xP b)) rfl rfl ?_
        refine xw_go xb_50 2 (f1 := (30, [.ref 43, .float 0], [.int 0])) (h1 := (xS b, K, L, xP b)) rfl trivial ?_
        refine xw_ret xb_50 rfl rfl ?_ ?_
        · first | exact Or.inl rfl | exact Or.inr rfl
        exact ⟨rfl, K, rfl, fun a h1 h2 => by rw [k1 a h1 (by omega)]; exact j1 a h1 h2, k2⟩

/-- the tape at a holds t letters T -/
def xTA (T : Nat → Nat) (t a : Nat) (I : Nat → Nat → Int32) : Prop := t ≤ 110 ∧ (∀ k, k < t → 32 ≤ T k ∧ T k ≤ 126) ∧ ∀ k, k < t → I a k = nI (T k)
/-- the text is faulty at F -/
def xGF (T : Nat → Nat) (t F : Nat) : Prop := ∃ K0, K0 ≤ 7 ∧ (∀ j, j < K0 → xgc T t j) ∧ ¬ xgc T t K0 ∧
  ((¬ xgg T t K0 ∧ F = xsk T t (xrp T t (xq T t K0) (xgn T t K0))) ∨
   (xgg T t K0 ∧ ∃ S0, S0 ≤ 4 ∧ (∀ j, j < S0 → xzc T t (K0 + 1) (xgC T t) (xq T t (K0 + 1)) j) ∧ ¬ xzc T t (K0 + 1) (xgC T t) (xq T t (K0 + 1)) S0 ∧ ¬ xzg T t (K0 + 1) (xgC T t) (xq T t (K0 + 1)) S0 ∧ F = xsk T t (xrp T t (xsp T t (xq T t (K0 + 1)) S0) (xsm T t (K0 + 1) (xgC T t) (xq T t (K0 + 1)) S0))))
/-- the text is a garden of K0 + 1 rows, S0 + 1 sprinklers -/
def xGG (T : Nat → Nat) (t K0 S0 : Nat) : Prop := K0 ≤ 7 ∧ (∀ j, j < K0 → xgc T t j) ∧ xgg T t K0 ∧ S0 ≤ 4 ∧ (∀ j, j < S0 → xzc T t (K0 + 1) (xgC T t) (xq T t (K0 + 1)) j) ∧ xzg T t (K0 + 1) (xgC T t) (xq T t (K0 + 1)) S0
theorem xG_or {T : Nat → Nat} {t : Nat} : (∃ F, xGF T t F) ∨ ∃ K0 S0, xGG T t K0 S0 := by
  obtain ⟨K0, k1, k2, k3⟩ := xgc_ex (T := T) (t := t)
  by_cases hg : xgg T t K0
  · obtain ⟨S0, s1, s2, s3⟩ := xzc_ex (T := T) (t := t) (R := K0 + 1) (c := xgC T t) (p := xq T t (K0 + 1))
    by_cases hz : xzg T t (K0 + 1) (xgC T t) (xq T t (K0 + 1)) S0
    · exact Or.inr ⟨K0, S0, k1, k2, hg, s1, s2, hz⟩
    · exact Or.inl ⟨_, K0, k1, k2, k3, Or.inr ⟨hg, S0, s1, s2, s3, hz, rfl⟩⟩
  · exact Or.inl ⟨_, K0, k1, k2, k3, Or.inl ⟨hg, rfl⟩⟩
theorem xgg_q {T : Nat → Nat} {t K0 : Nat} (h : xgg T t K0) : xq T t (K0 + 1) ≤ t := by
  have := xlt_n (T := T) (t := t) (p := xrp T t (xq T t K0) (xgC T t)) (by rw [h.2.2.1]; decide)
  show xsk T t (xrp T t (xq T t K0) (xgC T t)) + 1 ≤ t
  omega
theorem c_reads1 {d : Nat} {b : Bool} {I : Nat → Nat → Int32} {L : Nat → Nat → Int64} {T : Nat → Nat} {t : Nat} (hA : xTA T t 42 I) {K0 : Nat} (k1 : K0 ≤ 7) (k2 : ∀ j, j < K0 → xgc T t j) (k3 : ¬ xgc T t K0) (hg : ¬ xgg T t K0) {x : Int32} (e_x : x = nI t) : xm_Z (d + 5) 45 [.ref 43, .int x] (xS b, I, L, xP b) (fun rz hz => rz = some (.int 0) ∧ ∃ I', hz = (xS b, I', L, xP b) ∧ (∀ a, a ≠ 43 → a ≠ 44 → a < 46 ∨ 51 ≤ a → I' a = I a) ∧ I' 43 2 = nI (xsk T t (xrp T t (xq T t K0) (xgn T t K0)))) := by
  subst e_x
  have hR : xRT T t (xm_up (xm_up I 43 1 (nI t)) 43 2 0) := ⟨hA.1, hA.2.1, by rw [xm_up_ne (Or.inr (by decide)), xm_up_at], fun k hk => by rw [xm_up_o (by decide), xm_up_o (by decide)]; exact hA.2.2 k hk⟩
  have h20 : (xm_up (xm_up I 43 1 (nI t)) 43 2 0) 43 2 = nI 0 := xm_up_at _ _ _ _
  refine xw_S xb_45 (l := [.ref 43, .int (nI t)]) (Nat.le_of_ble_eq_true rfl) rfl ?_
  refine xw_go xb_45 6 (f1 := (10, [.ref 43, .int (nI t)], [.int (if (Int32.ofNat ((xS b).getD 42 (0, 0)).2) < (nI t) then (Int32.ofNat ((xS b).getD 42 (0, 0)).2) else (nI t)), .ref 43])) (h1 := (xS b, I, L, xP b)) rfl ⟨rfl, ⟨_, Nat.le_of_ble_eq_true rfl, rfl⟩, Nat.le_of_ble_eq_true rfl, trivial⟩ ?_
  refine xw_cong (l' := [.ref 43, .int (nI t)]) (st' := [.int (nI t), .ref 43]) (h' := (xS b, I, L, xP b)) rfl (show ([.int (if (Int32.ofNat ((xS b).getD 42 (0, 0)).2) < (nI t) then (Int32.ofNat ((xS b).getD 42 (0, 0)).2) else (nI t)), .ref 43] : List Value) = [.int (nI t), .ref 43] from ?_) rfl ?_
  · rw [show Int32.ofNat ((xS b).getD 42 (0, 0)).2 = nI 110 from rfl, if_neg (show ¬ (nI 110 < nI t) by rw [nI_ltI (by omega) (by have := hA.1; omega)]; have := hA.1; omega)]
  refine xw_go xb_45 5 (f1 := (19, [.ref 43, .int (nI t)], [.ref 43])) (h1 := (xS b, xm_up (xm_up I 43 1 (nI t)) 43 2 0, L, xP b)) rfl ⟨rfl, rfl, trivial⟩ ?_
  refine xw_call xb_45 rfl rfl rfl rfl rfl (Or.inr ⟨_, _, rfl, rfl⟩) (c_rowsB (I := (xm_up (xm_up I 43 1 (nI t)) 43 2 0)) hR h20 k1 k2 k3 hg) ?_
  rintro _ _ ⟨rfl, K, rfl, m1, m2⟩
  refine xw_at (f' := (22, [.ref 43, .int (nI t)], [.int 0])) (h' := (xS b, K, L, xP b)) rfl rfl ?_
  refine xw_go xb_45 2 (f1 := (37, [.ref 43, .int (nI t)], [.int 0])) (h1 := (xS b, K, L, xP b)) rfl trivial ?_
  refine xw_ret xb_45 rfl rfl ?_ ?_
  · exact Or.inl rfl
  exact ⟨rfl, K, rfl, fun a h1 h2 h3 => by rw [m1 a h1 h2, xm_up_o h1, xm_up_o h1], m2⟩

theorem c_reads2 {d : Nat} {b : Bool} {I : Nat → Nat → Int32} {L : Nat → Nat → Int64} {T : Nat → Nat} {t : Nat} (hA : xTA T t 42 I) {K0 S0 : Nat} (k1 : K0 ≤ 7) (k2 : ∀ j, j < K0 → xgc T t j) (hg : xgg T t K0) (s1 : S0 ≤ 4) (s2 : ∀ j, j < S0 → xzc T t (K0 + 1) (xgC T t) (xq T t (K0 + 1)) j) (s3 : ¬ xzc T t (K0 + 1) (xgC T t) (xq T t (K0 + 1)) S0) (hz : ¬ xzg T t (K0 + 1) (xgC T t) (xq T t (K0 + 1)) S0) {x : Int32} (e_x : x = nI t) : xm_Z (d + 5) 45 [.ref 43, .int x] (xS b, I, L, xP b) (fun rz hz => rz = some (.int 0) ∧ ∃ I', hz = (xS b, I', L, xP b) ∧ (∀ a, a ≠ 43 → a ≠ 44 → a < 46 ∨ 51 ≤ a → I' a = I a) ∧ I' 43 2 = nI (xsk T t (xrp T t (xsp T t (xq T t (K0 + 1)) S0) (xsm T t (K0 + 1) (xgC T t) (xq T t (K0 + 1)) S0)))) := by
  subst e_x
  have hR : xRT T t (xm_up (xm_up I 43 1 (nI t)) 43 2 0) := ⟨hA.1, hA.2.1, by rw [xm_up_ne (Or.inr (by decide)), xm_up_at], fun k hk => by rw [xm_up_o (by decide), xm_up_o (by decide)]; exact hA.2.2 k hk⟩
  have h20 : (xm_up (xm_up I 43 1 (nI t)) 43 2 0) 43 2 = nI 0 := xm_up_at _ _ _ _
  refine xw_S xb_45 (l := [.ref 43, .int (nI t)]) (Nat.le_of_ble_eq_true rfl) rfl ?_
  refine xw_go xb_45 6 (f1 := (10, [.ref 43, .int (nI t)], [.int (if (Int32.ofNat ((xS b).getD 42 (0, 0)).2) < (nI t) then (Int32.ofNat ((xS b).getD 42 (0, 0)).2) else (nI t)), .ref 43])) (h1 := (xS b, I, L, xP b)) rfl ⟨rfl, ⟨_, Nat.le_of_ble_eq_true rfl, rfl⟩, Nat.le_of_ble_eq_true rfl, trivial⟩ ?_
  refine xw_cong (l' := [.ref 43, .int (nI t)]) (st' := [.int (nI t), .ref 43]) (h' := (xS b, I, L, xP b)) rfl (show ([.int (if (Int32.ofNat ((xS b).getD 42 (0, 0)).2) < (nI t) then (Int32.ofNat ((xS b).getD 42 (0, 0)).2) else (nI t)), .ref 43] : List Value) = [.int (nI t), .ref 43] from ?_) rfl ?_
  · rw [show Int32.ofNat ((xS b).getD 42 (0, 0)).2 = nI 110 from rfl, if_neg (show ¬ (nI 110 < nI t) by rw [nI_ltI (by omega) (by have := hA.1; omega)]; have := hA.1; omega)]
  refine xw_go xb_45 5 (f1 := (19, [.ref 43, .int (nI t)], [.ref 43])) (h1 := (xS b, xm_up (xm_up I 43 1 (nI t)) 43 2 0, L, xP b)) rfl ⟨rfl, rfl, trivial⟩ ?_
  refine xw_call xb_45 rfl rfl rfl rfl rfl (Or.inr ⟨_, _, rfl, rfl⟩) (c_rowsG (I := (xm_up (xm_up I 43 1 (nI t)) 43 2 0)) hR h20 k1 k2 hg) ?_
  rintro _ _ ⟨rfl, K, rfl, m1, m2, m3, m4, m5, m6⟩
  have hRK : xRT T t K := xRT_k hR m1 m2
  have c8 := xgC_le (T := T) (t := t)
  refine xw_at (f' := (22, [.ref 43, .int (nI t)], [.int 1])) (h' := (xS b, K, L, xP b)) rfl rfl ?_
  refine xw_go xb_45 2 (f1 := (26, [.ref 43, .int (nI t)], [.ref 43])) (h1 := (xS b, K, L, xP b)) rfl trivial ?_
  refine xw_call xb_45 rfl rfl rfl rfl rfl (Or.inr ⟨_, _, rfl, rfl⟩) (c_sprsB (I := K) hRK m4 m5 m3 (xgg_q hg) (by have := hg.2.2.2; omega) (by have := hg.1; omega) s1 s2 s3 hz) ?_
  rintro _ _ ⟨rfl, M, rfl, n1, n2⟩
  refine xw_at (f' := (29, [.ref 43, .int (nI t)], [.int 0])) (h' := (xS b, M, L, xP b)) rfl rfl ?_
  refine xw_go xb_45 2 (f1 := (37, [.ref 43, .int (nI t)], [.int 0])) (h1 := (xS b, M, L, xP b)) rfl trivial ?_
  refine xw_ret xb_45 rfl rfl ?_ ?_
  · exact Or.inl rfl
  exact ⟨rfl, M, rfl, fun a h1 h2 h3 => by rw [n1 a h1 h3, m1 a h1 h2, xm_up_o h1, xm_up_o h1], n2⟩

theorem c_readsG {d : Nat} {b : Bool} {I : Nat → Nat → Int32} {L : Nat → Nat → Int64} {T : Nat → Nat} {t : Nat} (hA : xTA T t 42 I) {K0 S0 : Nat} (k1 : K0 ≤ 7) (k2 : ∀ j, j < K0 → xgc T t j) (hg : xgg T t K0) (s1 : S0 ≤ 4) (s2 : ∀ j, j < S0 → xzc T t (K0 + 1) (xgC T t) (xq T t (K0 + 1)) j) (hz : xzg T t (K0 + 1) (xgC T t) (xq T t (K0 + 1)) S0) {x : Int32} (e_x : x = nI t) : xm_Z (d + 5) 45 [.ref 43, .int x] (xS b, I, L, xP b) (fun rz hz => rz = some (.int 1) ∧ ∃ I', hz = (xS b, I', L, xP b) ∧ (∀ a, a ≠ 43 → a ≠ 44 → a < 46 ∨ 51 ≤ a → I' a = I a) ∧ I' 43 3 = nI (K0 + 1) ∧ I' 43 4 = nI (xgC T t) ∧ I' 43 7 = nI (S0 + 1) ∧ (∀ i, i < (K0 + 1) * xgC T t → I' 44 i = nI (xgS T t i)) ∧ ∀ j, j < S0 + 1 → ∀ f, f < 4 → I' (46 + j) f = nI (xzd T t (xgC T t) (xq T t (K0 + 1)) j f)) := by
  subst e_x
  have hR : xRT T t (xm_up (xm_up I 43 1 (nI t)) 43 2 0) := ⟨hA.1, hA.2.1, by rw [xm_up_ne (Or.inr (by decide)), xm_up_at], fun k hk => by rw [xm_up_o (by decide), xm_up_o (by decide)]; exact hA.2.2 k hk⟩
  have h20 : (xm_up (xm_up I 43 1 (nI t)) 43 2 0) 43 2 = nI 0 := xm_up_at _ _ _ _
  refine xw_S xb_45 (l := [.ref 43, .int (nI t)]) (Nat.le_of_ble_eq_true rfl) rfl ?_
  refine xw_go xb_45 6 (f1 := (10, [.ref 43, .int (nI t)], [.int (if (Int32.ofNat ((xS b).getD 42 (0, 0)).2) < (nI t) then (Int32.ofNat ((xS b).getD 42 (0, 0)).2) else (nI t)), .ref 43])) (h1 := (xS b, I, L, xP b)) rfl ⟨rfl, ⟨_, Nat.le_of_ble_eq_true rfl, rfl⟩, Nat.le_of_ble_eq_true rfl, trivial⟩ ?_
  refine xw_cong (l' := [.ref 43, .int (nI t)]) (st' := [.int (nI t), .ref 43]) (h' := (xS b, I, L, xP b)) rfl (show ([.int (if (Int32.ofNat ((xS b).getD 42 (0, 0)).2) < (nI t) then (Int32.ofNat ((xS b).getD 42 (0, 0)).2) else (nI t)), .ref 43] : List Value) = [.int (nI t), .ref 43] from ?_) rfl ?_
  · rw [show Int32.ofNat ((xS b).getD 42 (0, 0)).2 = nI 110 from rfl, if_neg (show ¬ (nI 110 < nI t) by rw [nI_ltI (by omega) (by have := hA.1; omega)]; have := hA.1; omega)]
  refine xw_go xb_45 5 (f1 := (19, [.ref 43, .int (nI t)], [.ref 43])) (h1 := (xS b, xm_up (xm_up I 43 1 (nI t)) 43 2 0, L, xP b)) rfl ⟨rfl, rfl, trivial⟩ ?_
  refine xw_call xb_45 rfl rfl rfl rfl rfl (Or.inr ⟨_, _, rfl, rfl⟩) (c_rowsG (I := (xm_up (xm_up I 43 1 (nI t)) 43 2 0)) hR h20 k1 k2 hg) ?_
  rintro _ _ ⟨rfl, K, rfl, m1, m2, m3, m4, m5, m6⟩
  have hRK : xRT T t K := xRT_k hR m1 m2
  have c8 := xgC_le (T := T) (t := t)
  refine xw_at (f' := (22, [.ref 43, .int (nI t)], [.int 1])) (h' := (xS b, K, L, xP b)) rfl rfl ?_
  refine xw_go xb_45 2 (f1 := (26, [.ref 43, .int (nI t)], [.ref 43])) (h1 := (xS b, K, L, xP b)) rfl trivial ?_
  refine xw_call xb_45 rfl rfl rfl rfl rfl (Or.inr ⟨_, _, rfl, rfl⟩) (c_sprsG (I := K) hRK m4 m5 m3 (xgg_q hg) (by have := hg.2.2.2; omega) (by have := hg.1; omega) s1 s2 hz) ?_
  rintro _ _ ⟨rfl, M, rfl, n1, n2, n3, n4, n5⟩
  refine xw_at (f' := (29, [.ref 43, .int (nI t)], [.int 1])) (h' := (xS b, M, L, xP b)) rfl rfl ?_
  refine xw_go xb_45 3 (f1 := (37, [.ref 43, .int (nI t)], [.int 1])) (h1 := (xS b, M, L, xP b)) rfl trivial ?_
  refine xw_ret xb_45 rfl rfl ?_ ?_
  · exact Or.inr rfl
  exact ⟨rfl, M, rfl, fun a h1 h2 h3 => by rw [n1 a h1 h3, m1 a h1 h2, xm_up_o h1, xm_up_o h1], n2, n3, n4, fun i hi => by rw [n1 44 (by decide) (by decide)]; exact m6 i hi, n5⟩

theorem c_readsF {d : Nat} {b : Bool} {I : Nat → Nat → Int32} {L : Nat → Nat → Int64} {T : Nat → Nat} {t : Nat} (hA : xTA T t 42 I) {F : Nat} (hF : xGF T t F) {x : Int32} (e_x : x = nI t) : xm_Z (d + 5) 45 [.ref 43, .int x] (xS b, I, L, xP b) (fun rz hz => rz = some (.int 0) ∧ ∃ I', hz = (xS b, I', L, xP b) ∧ (∀ a, a ≠ 43 → a ≠ 44 → a < 46 ∨ 51 ≤ a → I' a = I a) ∧ I' 43 2 = nI F) := by
  obtain ⟨K0, k1, k2, k3, h⟩ := hF
  rcases h with ⟨hg, rfl⟩ | ⟨hg, S0, s1, s2, s3, hz, rfl⟩
  · exact c_reads1 hA k1 k2 k3 hg e_x
  · exact c_reads2 hA k1 k2 hg s1 s2 s3 hz e_x
