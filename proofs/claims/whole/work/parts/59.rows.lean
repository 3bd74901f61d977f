/-! ===== the class reads: rows ===== -/
theorem xgS_row {T : Nat → Nat} {t k j : Nat} (h : j < xgC T t) : xgS T t (k * xgC T t + j) = xsc (xlt T t (xrp T t (xq T t k) j)) := by
  unfold xgS
  have h1 : (k * xgC T t + j) / xgC T t = k := by
    rw [Nat.mul_comm, Nat.mul_add_div (by omega), Nat.div_eq_of_lt h, Nat.add_zero]
  have h2 : (k * xgC T t + j) % xgC T t = j := by
    rw [Nat.mul_comm, Nat.mul_add_mod, Nat.mod_eq_of_lt h]
  rw [h1, h2]
theorem xkc56 {T : Nat → Nat} {t k : Nat} (h : k ≤ 7) : k * xgC T t ≤ 56 := Nat.le_trans (Nat.mul_le_mul h xgC_le) (by decide)
/-- the reader in front of row k -/
def xRK (T : Nat → Nat) (t k : Nat) (I J : Nat → Nat → Int32) : Prop := (∀ a, a ≠ 43 → a ≠ 44 → J a = I a) ∧ J 43 1 = I 43 1 ∧ J 43 2 = nI (xq T t k) ∧ J 43 3 = nI (k + 1) ∧ (1 ≤ k → J 43 4 = nI (xgC T t)) ∧ J 43 5 = nI (k * xgC T t) ∧ ∀ i, i < k * xgC T t → J 44 i = nI (xgS T t i)
theorem c_readsRow {d : Nat} {b : Bool} {I J : Nat → Nat → Int32} {L : Nat → Nat → Int64} {T : Nat → Nat} {t : Nat} (hR : xRT T t I) {k : Nat} (hk : k ≤ 7) (hc : ∀ j, j < k → xgc T t j) (hJ : xRK T t k I J) : xm_Z (d + 2) 47 [.ref 43] (xS b, J, L, xP b) (fun rz hz => rz = some (.int (nI (xB (decide (2 ≤ xgC T t ∧ xgn T t k = xgC T t))))) ∧ ∃ K, hz = (xS b, K, L, xP b) ∧ (∀ a, a ≠ 43 → a ≠ 44 → K a = I a) ∧ K 43 1 = I 43 1 ∧ K 43 2 = nI (xsk T t (xrp T t (xq T t k) (xgn T t k))) ∧ K 43 3 = nI (k + 1) ∧ K 43 4 = nI (xgC T t) ∧ K 43 5 = nI (k * xgC T t + xgn T t k) ∧ ∀ i, i < k * xgC T t + xgn T t k → K 44 i = nI (xgS T t i)) := by
  obtain ⟨j1, j2, j3, j4, j5, j6, j7⟩ := hJ
  have hR2 : xRT T t J := xRT_fr hR j2 (j1 42 (by decide) (by decide))
  have k56 := xkc56 (T := T) (t := t) hk
  have c8 := xgC_le (T := T) (t := t)
  have ql := xq_le k hc
  have fin : ∀ {n : Nat} {K : Nat → Nat → Int32}, n = xgn T t k → (∀ j, j < n → K 44 (k * xgC T t + j) = nI (xsc (xlt T t (xrp T t (xq T t k) j)))) → (∀ j, j < k * xgC T t → K 44 j = J 44 j) → ∀ i, i < k * xgC T t + n → K 44 i = nI (xgS T t i) := fun {n K} e h1 h2 i hi => by
    have := xgn_le (T := T) (t := t) (k := k)
    by_cases q : i < k * xgC T t
    · rw [h2 i q]
      exact j7 i q
    · have h3 := h1 (i - k * xgC T t) (by omega)
      have h4 := xgS_row (T := T) (t := t) (k := k) (j := i - k * xgC T t) (by omega)
      rw [show k * xgC T t + (i - k * xgC T t) = i by omega] at h3 h4
      rw [h3, h4]
  by_cases e : k = 0
  · subst e
    have n0 : xgn T t 0 = xgC T t := xgn_0
    refine xw_Z (c_row1 (I := J) (r := 0 + 1) (c := 0) (z := 0 * xgC T t) (p := xq T t 0) (lim := 8) hR2 j4 j6 j3 ql rfl ql rfl rfl (by omega) (n := xgC T t) rfl) ?_
    rintro _ _ ⟨rfl, K, rfl, k1, k2, k3, k4, k5, k6, k7⟩
    refine ⟨?_, K, rfl, fun a h1 h2 => by rw [k1 a h1 h2, j1 a h1 h2], by rw [k5 1 (by decide) (by decide) (by decide), j2], by rw [n0]; exact k2, by rw [k5 3 (by decide) (by decide) (by decide)]; exact j4, k3, by rw [n0]; exact k4, ?_⟩
    · exact congrArg (fun q => some (Value.int (nI (xB q)))) (decide_eq_decide.mpr ⟨fun q => ⟨q, n0⟩, fun q => q.1⟩)
    · rw [n0]
      exact fin n0.symm k6 k7
  · have c2 := (hc 0 (by omega)).1
    refine xw_Z (c_row2 (I := J) (r := k + 1) (c := xgC T t) (z := k * xgC T t) (p := xq T t k) (lim := xgC T t) hR2 j4 j6 j3 ql rfl ql (by omega) (j5 (by omega)) c8 rfl (by omega) (n := xgn T t k) rfl) ?_
    rintro _ _ ⟨rfl, K, rfl, k1, k2, k3, k4, k5, k6, k7⟩
    refine ⟨?_, K, rfl, fun a h1 h2 => by rw [k1 a h1 h2, j1 a h1 h2], by rw [k5 1 (by decide) (by decide) (by decide), j2], k2, by rw [k5 3 (by decide) (by decide) (by decide)]; exact j4, k3, k4, fin rfl k6 k7⟩
    exact congrArg (fun q => some (Value.int (nI (xB q)))) (decide_eq_decide.mpr ⟨fun q => ⟨c2, q⟩, fun q => q.2⟩)
theorem xRT_k {T : Nat → Nat} {t : Nat} {I K : Nat → Nat → Int32} (hR : xRT T t I) (k1 : ∀ a, a ≠ 43 → a ≠ 44 → K a = I a) (k2 : K 43 1 = I 43 1) : xRT T t K := xRT_fr hR k2 (k1 42 (by decide) (by decide))
theorem c_rowsG {d : Nat} {b : Bool} {I : Nat → Nat → Int32} {L : Nat → Nat → Int64} {T : Nat → Nat} {t : Nat} (hR : xRT T t I) (h2 : I 43 2 = nI 0) {K0 : Nat} (hK0 : K0 ≤ 7) (hc : ∀ j, j < K0 → xgc T t j) (hg : xgg T t K0) : xm_Z (d + 3) 46 [.ref 43] (xS b, I, L, xP b) (fun rz hz => rz = some (.int 1) ∧ ∃ I', hz = (xS b, I', L, xP b) ∧ (∀ a, a ≠ 43 → a ≠ 44 → I' a = I a) ∧ I' 43 1 = I 43 1 ∧ I' 43 2 = nI (xq T t (K0 + 1)) ∧ I' 43 3 = nI (K0 + 1) ∧ I' 43 4 = nI (xgC T t) ∧ ∀ i, i < (K0 + 1) * xgC T t → I' 44 i = nI (xgS T t i)) := by
  refine xw_S xb_46 (l := [.ref 43, .float 0]) (Nat.le_of_ble_eq_true rfl) rfl ?_
  refine xw_go xb_46 6 (f1 := (10, [.ref 43, .float 0], [])) (h1 := (xS b, xm_up (xm_up I 43 5 0) 43 3 1, L, xP b)) rfl ⟨rfl, rfl, trivial⟩ ?_
  refine xw_loopP K0 (fun k => (10, [.ref 43, .float 0], [])) (fun k h => ∃ J, h = (xS b, J, L, xP b) ∧ xRK T t k I J) (fun k h hk hV ih => ?_) (fun h hV => ?_) 0 _ (Nat.zero_le _) ⟨_, rfl, fun a h1 h2 => ?_, ?_, ?_, ?_, fun q => absurd q (by decide), ?_, fun i hi => absurd hi (by omega)⟩
  · obtain ⟨J, rfl, j1, j2, j3, j4, j5, j6, j7⟩ := hV
    have gk := hc k hk
    have hcn : ∀ j, j < k → xgc T t j := fun j hj => hc j (by omega)
    obtain ⟨g1, g2, g3, g4⟩ := gk
    have e59 : xlC T t (xrp T t (xq T t k) (xgn T t k)) = 59 ↔ xlt T t (xrp T t (xq T t k) (xgn T t k)) = 59 := xlC_eq hR.2.1 (by decide) (by decide)
    have e47 : xlC T t (xrp T t (xq T t k) (xgn T t k)) = 47 ↔ xlt T t (xrp T t (xq T t k) (xgn T t k)) = 47 := xlC_eq hR.2.1 (by decide) (by decide)
    rw [g2, g3] at e59 e47
    refine xw_go xb_46 2 (f1 := (14, [.ref 43, .float 0], [.int (J 43 3)])) (h1 := (xS b, J, L, xP b)) rfl ⟨rfl, trivial⟩ ?_
    refine xw_cong (l' := [.ref 43, .float 0]) (st' := [.int (nI (k + 1))]) (h' := (xS b, J, L, xP b)) rfl (show ([.int (J 43 3)] : List Value) = [.int (nI (k + 1))] from ?_) rfl ?_
    · rw [j4]
    refine xw_go xb_46 2 (f1 := (if 8 < (nI (k + 1)) then 99 else 19, [.ref 43, .float 0], [])) (h1 := (xS b, J, L, xP b)) rfl trivial ?_
    refine xw_if (fun c_16 => ?_) (fun c_16 => ?_)
    · skip
      exfalso
      try simp only [xB_dec, Classical.not_not] at c_16
      try simp (disch := omega) only [xt_eq, xt_lt, xt_le, xkt_0, xkt_1, xkt_2, xkt_3, xkt_4, xkt_5, xkt_6, xkt_7, xkt_8, xkt_9, xkt_10, xkt_11, xkt_12, xkt_13, xkt_14, xkt_16, xkt_20, xkt_24, xkt_31, xkt_32, xkt_40, xkt_44, xkt_47, xkt_48, xkt_57, xkt_59, xkt_60, xkt_63, xkt_64, xkt_65, xkt_72, xkt_95, xkt_99, xkt_100, xkt_101, xkt_103, xkt_110, xkt_112, xkt_113, xkt_114, xkt_119, xkt_126, xkt_159, xkt_576, xkt_999, xkt_9999, xkt_65536, xkt_999999, xkt_m1, xkt_m2, xkt_m3, xkt_m4, xkt_m11, xkt_m12, xkt_m13, xkt_m14, xkt_m20, xjt_0, xjt_1, xjt_2, xjt_3, xjt_4, xjt_5, xjt_6, xjt_7, xjt_8, xjt_9, xjt_10, xjt_11, xjt_12, xjt_13, xjt_14, xjt_16, xjt_20, xjt_24, xjt_31, xjt_32, xjt_40, xjt_44, xjt_47, xjt_48, xjt_57, xjt_59, xjt_60, xjt_63, xjt_64, xjt_65, xjt_72, xjt_95, xjt_99, xjt_100, xjt_101, xjt_103, xjt_110, xjt_112, xjt_113, xjt_114, xjt_119, xjt_126, xjt_159, xjt_576, xjt_999, xjt_9999, xjt_65536, xjt_999999, xt64, xt_n, not_true_eq_false, not_false_eq_true, Classical.not_not] at c_16
      all_goals omega
    · skip
      refine xw_go xb_46 1 (f1 := (20, [.ref 43, .float 0], [.ref 43])) (h1 := (xS b, J, L, xP b)) rfl trivial ?_
      refine xw_call xb_46 rfl rfl rfl rfl rfl (Or.inr ⟨_, _, rfl, rfl⟩) (c_readsRow (J := J) hR (k := k) (by omega) hcn ⟨j1, j2, j3, j4, j5, j6, j7⟩) ?_
      rintro _ _ ⟨rfl, K, rfl, k1, k2, k3, k4, k5, k6, k7⟩
      have sl : xsk T t (xrp T t (xq T t k) (xgn T t k)) ≤ t := xsk_le (xrp_le (xq_le k hcn) (fun j hj => xld_t (f := xfr9 T t (xq T t k)) (xgC T t) j hj) _ (Nat.le_refl _))
      refine xw_at (f' := (23, [.ref 43, .float 0], [.int (nI (xB (decide (2 ≤ (xgC T t) ∧ xgn T t k = (xgC T t)))))])) (h' := (xS b, K, L, xP b)) rfl rfl ?_
      refine xw_go xb_46 1 (f1 := (if ¬ (nI (xB (decide (2 ≤ (xgC T t) ∧ xgn T t k = (xgC T t))))) = 0 then 28 else 26, [.ref 43, .float 0], [])) (h1 := (xS b, K, L, xP b)) rfl trivial ?_
      refine xw_if (fun c_23 => ?_) (fun c_23 => ?_)
      · skip
        refine xw_go xb_46 1 (f1 := (29, [.ref 43, .float 0], [.ref 43])) (h1 := (xS b, K, L, xP b)) rfl trivial ?_
        refine xw_call xb_46 rfl rfl rfl rfl rfl (Or.inr ⟨_, _, rfl, rfl⟩) (c_letter (I := K) (a := xsk T t (xrp T t (xq T t k) (xgn T t k))) (xRT_k hR k1 k2) k3 sl) ?_
        rintro _ _ ⟨rfl, rfl⟩
        refine xw_at (f' := (32, [.ref 43, .float 0], [.int (xlC T t (xsk T t (xrp T t (xq T t k) (xgn T t k))))])) (h' := (xS b, xm_up K 43 2 (nI (xsk T t (xsk T t (xrp T t (xq T t k) (xgn T t k))))), L, xP b)) rfl rfl ?_
        refine xw_cong (l' := [.ref 43, .float 0]) (st' := [.int (xlC T t (xrp T t (xq T t k) (xgn T t k)))]) (h' := (xS b, xm_up K 43 2 (nI (xsk T t (xsk T t (xrp T t (xq T t k) (xgn T t k))))), L, xP b)) rfl (show ([.int (xlC T t (xsk T t (xrp T t (xq T t k) (xgn T t k))))] : List Value) = [.int (xlC T t (xrp T t (xq T t k) (xgn T t k)))] from ?_) rfl ?_
        · rw [xlC_c (xsk_id _)]
        refine xw_at (f' := (32, [.ref 43, .float 0], [.int (xlC T t (xrp T t (xq T t k) (xgn T t k)))])) (h' := (xS b, K, L, xP b)) rfl (show (xS b, xm_up K 43 2 (nI (xsk T t (xsk T t (xrp T t (xq T t k) (xgn T t k))))), L, xP b) = (xS b, K, L, xP b) from ?_) ?_
        · rw [xsk_id, xup_me k3]
        refine xw_go xb_46 3 (f1 := (37, [.ref 43, .int (xlC T t (xrp T t (xq T t k) (xgn T t k)))], [.int (K 43 3)])) (h1 := (xS b, K, L, xP b)) rfl ⟨rfl, trivial⟩ ?_
        refine xw_cong (l' := [.ref 43, .int (xlC T t (xrp T t (xq T t k) (xgn T t k)))]) (st' := [.int (nI (k + 1))]) (h' := (xS b, K, L, xP b)) rfl (show ([.int (K 43 3)] : List Value) = [.int (nI (k + 1))] from ?_) rfl ?_
        · rw [k4]
        refine xw_go xb_46 2 (f1 := (if (nI (k + 1)) < 2 then 59 else 41, [.ref 43, .int (xlC T t (xrp T t (xq T t k) (xgn T t k)))], [])) (h1 := (xS b, K, L, xP b)) rfl trivial ?_
        refine xw_if (fun c_38 => ?_) (fun c_38 => ?_)
        · skip
          refine xw_go xb_46 2 (f1 := (63, [.ref 43, .int (xlC T t (xrp T t (xq T t k) (xgn T t k)))], [.int (K 43 3)])) (h1 := (xS b, K, L, xP b)) rfl ⟨rfl, trivial⟩ ?_
          refine xw_cong (l' := [.ref 43, .int (xlC T t (xrp T t (xq T t k) (xgn T t k)))]) (st' := [.int (nI (k + 1))]) (h' := (xS b, K, L, xP b)) rfl (show ([.int (K 43 3)] : List Value) = [.int (nI (k + 1))] from ?_) rfl ?_
          · rw [k4]
          refine xw_go xb_46 2 (f1 := (if (nI (k + 1)) = 8 then 74 else 68, [.ref 43, .int (xlC T t (xrp T t (xq T t k) (xgn T t k)))], [])) (h1 := (xS b, K, L, xP b)) rfl trivial ?_
          refine xw_if (fun c_65 => ?_) (fun c_65 => ?_)
          · skip
            exfalso
            first | (rw [g2] at c_71; exact c_71 (e47.mpr rfl)) | (rw [xl_8, nI_eq (by omega) (by omega)] at c_65; omega)
          · skip
            refine xw_go xb_46 3 (f1 := (if (xlC T t (xrp T t (xq T t k) (xgn T t k))) = 47 then 76 else 74, [.ref 43, .int (xlC T t (xrp T t (xq T t k) (xgn T t k)))], [])) (h1 := (xS b, K, L, xP b)) rfl trivial ?_
            refine xw_if (fun c_71 => ?_) (fun c_71 => ?_)
            · skip
              refine xw_go xb_46 6 (f1 := (86, [.ref 43, .int (xlC T t (xrp T t (xq T t k) (xgn T t k)))], [])) (h1 := (xS b, xm_up K 43 2 ((K 43 2) + 1), L, xP b)) rfl ⟨rfl, rfl, trivial⟩ ?_
              refine xw_at (f' := (86, [.ref 43, .int (xlC T t (xrp T t (xq T t k) (xgn T t k)))], [])) (h' := (xS b, xm_up K 43 2 (nI (xq T t (k + 1))), L, xP b)) rfl (show (xS b, xm_up K 43 2 ((K 43 2) + 1), L, xP b) = (xS b, xm_up K 43 2 (nI (xq T t (k + 1))), L, xP b) from ?_) ?_
              · rw [k3, g2, nI_1]
                rfl
              refine xw_go xb_46 6 (f1 := (96, [.ref 43, .int (xlC T t (xrp T t (xq T t k) (xgn T t k)))], [])) (h1 := (xS b, xm_up (xm_up K 43 2 (nI (xq T t (k + 1)))) 43 3 (((xm_up K 43 2 (nI (xq T t (k + 1)))) 43 3) + 1), L, xP b)) rfl ⟨rfl, rfl, trivial⟩ ?_
              refine xw_at (f' := (96, [.ref 43, .int (xlC T t (xrp T t (xq T t k) (xgn T t k)))], [])) (h' := (xS b, xm_up (xm_up K 43 2 (nI (xq T t (k + 1)))) 43 3 (nI (k + 1 + 1)), L, xP b)) rfl (show (xS b, xm_up (xm_up K 43 2 (nI (xq T t (k + 1)))) 43 3 (((xm_up K 43 2 (nI (xq T t (k + 1)))) 43 3) + 1), L, xP b) = (xS b, xm_up (xm_up K 43 2 (nI (xq T t (k + 1)))) 43 3 (nI (k + 1 + 1)), L, xP b) from ?_) ?_
              · rw [xm_up_ne (Or.inr (by decide)), k4, nI_1]
              refine xw_go xb_46 1 (f1 := (10, [.ref 43, .int (xlC T t (xrp T t (xq T t k) (xgn T t k)))], [])) (h1 := (xS b, xm_up (xm_up K 43 2 (nI (xq T t (k + 1)))) 43 3 (nI (k + 1 + 1)), L, xP b)) rfl trivial ?_
              refine xw_fg (l0 := [.ref 43, .float 0]) ⟨Or.inr rfl, Or.inl rfl, trivial⟩ ?_
              refine xw_cong rfl rfl rfl (ih _ ⟨_, rfl, fun a h1 h2 => ?_, ?_, ?_, ?_, fun _ => ?_, ?_, fun i hi => ?_⟩)
              · rw [xm_up_o h1, xm_up_o h1]
                exact k1 a h1 h2
              · rw [xm_up_ne (Or.inr (by decide)), xm_up_ne (Or.inr (by decide))]
                exact k2
              · rw [xm_up_ne (Or.inr (by decide)), xm_up_at]
              · rw [xm_up_at]
              · rw [xm_up_ne (Or.inr (by decide)), xm_up_ne (Or.inr (by decide))]
                exact k5
              · rw [xm_up_ne (Or.inr (by decide)), xm_up_ne (Or.inr (by decide)), k6, g2, Nat.succ_mul]
              · rw [xm_up_o (by decide), xm_up_o (by decide)]
                rw [Nat.succ_mul] at hi
                exact k7 i (by rw [g2]; exact hi)
            · skip
              exfalso
              first | (rw [g2] at c_71; exact c_71 (e47.mpr rfl)) | (rw [xl_8, nI_eq (by omega) (by omega)] at c_65; omega)
        · skip
          refine xw_go xb_46 3 (f1 := (if ¬ (xlC T t (xrp T t (xq T t k) (xgn T t k))) = 59 then 59 else 47, [.ref 43, .int (xlC T t (xrp T t (xq T t k) (xgn T t k)))], [])) (h1 := (xS b, K, L, xP b)) rfl trivial ?_
          refine xw_if (fun c_44 => ?_) (fun c_44 => ?_)
          · skip
            refine xw_go xb_46 2 (f1 := (63, [.ref 43, .int (xlC T t (xrp T t (xq T t k) (xgn T t k)))], [.int (K 43 3)])) (h1 := (xS b, K, L, xP b)) rfl ⟨rfl, trivial⟩ ?_
            refine xw_cong (l' := [.ref 43, .int (xlC T t (xrp T t (xq T t k) (xgn T t k)))]) (st' := [.int (nI (k + 1))]) (h' := (xS b, K, L, xP b)) rfl (show ([.int (K 43 3)] : List Value) = [.int (nI (k + 1))] from ?_) rfl ?_
            · rw [k4]
            refine xw_go xb_46 2 (f1 := (if (nI (k + 1)) = 8 then 74 else 68, [.ref 43, .int (xlC T t (xrp T t (xq T t k) (xgn T t k)))], [])) (h1 := (xS b, K, L, xP b)) rfl trivial ?_
            refine xw_if (fun c_65 => ?_) (fun c_65 => ?_)
            · skip
              exfalso
              first | (rw [g2] at c_71; exact c_71 (e47.mpr rfl)) | (rw [xl_8, nI_eq (by omega) (by omega)] at c_65; omega)
            · skip
              refine xw_go xb_46 3 (f1 := (if (xlC T t (xrp T t (xq T t k) (xgn T t k))) = 47 then 76 else 74, [.ref 43, .int (xlC T t (xrp T t (xq T t k) (xgn T t k)))], [])) (h1 := (xS b, K, L, xP b)) rfl trivial ?_
              refine xw_if (fun c_71 => ?_) (fun c_71 => ?_)
              · skip
                refine xw_go xb_46 6 (f1 := (86, [.ref 43, .int (xlC T t (xrp T t (xq T t k) (xgn T t k)))], [])) (h1 := (xS b, xm_up K 43 2 ((K 43 2) + 1), L, xP b)) rfl ⟨rfl, rfl, trivial⟩ ?_
                refine xw_at (f' := (86, [.ref 43, .int (xlC T t (xrp T t (xq T t k) (xgn T t k)))], [])) (h' := (xS b, xm_up K 43 2 (nI (xq T t (k + 1))), L, xP b)) rfl (show (xS b, xm_up K 43 2 ((K 43 2) + 1), L, xP b) = (xS b, xm_up K 43 2 (nI (xq T t (k + 1))), L, xP b) from ?_) ?_
                · rw [k3, g2, nI_1]
                  rfl
                refine xw_go xb_46 6 (f1 := (96, [.ref 43, .int (xlC T t (xrp T t (xq T t k) (xgn T t k)))], [])) (h1 := (xS b, xm_up (xm_up K 43 2 (nI (xq T t (k + 1)))) 43 3 (((xm_up K 43 2 (nI (xq T t (k + 1)))) 43 3) + 1), L, xP b)) rfl ⟨rfl, rfl, trivial⟩ ?_
                refine xw_at (f' := (96, [.ref 43, .int (xlC T t (xrp T t (xq T t k) (xgn T t k)))], [])) (h' := (xS b, xm_up (xm_up K 43 2 (nI (xq T t (k + 1)))) 43 3 (nI (k + 1 + 1)), L, xP b)) rfl (show (xS b, xm_up (xm_up K 43 2 (nI (xq T t (k + 1)))) 43 3 (((xm_up K 43 2 (nI (xq T t (k + 1)))) 43 3) + 1), L, xP b) = (xS b, xm_up (xm_up K 43 2 (nI (xq T t (k + 1)))) 43 3 (nI (k + 1 + 1)), L, xP b) from ?_) ?_
                · rw [xm_up_ne (Or.inr (by decide)), k4, nI_1]
                refine xw_go xb_46 1 (f1 := (10, [.ref 43, .int (xlC T t (xrp T t (xq T t k) (xgn T t k)))], [])) (h1 := (xS b, xm_up (xm_up K 43 2 (nI (xq T t (k + 1)))) 43 3 (nI (k + 1 + 1)), L, xP b)) rfl trivial ?_
                refine xw_fg (l0 := [.ref 43, .float 0]) ⟨Or.inr rfl, Or.inl rfl, trivial⟩ ?_
                refine xw_cong rfl rfl rfl (ih _ ⟨_, rfl, fun a h1 h2 => ?_, ?_, ?_, ?_, fun _ => ?_, ?_, fun i hi => ?_⟩)
                · rw [xm_up_o h1, xm_up_o h1]
                  exact k1 a h1 h2
                · rw [xm_up_ne (Or.inr (by decide)), xm_up_ne (Or.inr (by decide))]
                  exact k2
                · rw [xm_up_ne (Or.inr (by decide)), xm_up_at]
                · rw [xm_up_at]
                · rw [xm_up_ne (Or.inr (by decide)), xm_up_ne (Or.inr (by decide))]
                  exact k5
                · rw [xm_up_ne (Or.inr (by decide)), xm_up_ne (Or.inr (by decide)), k6, g2, Nat.succ_mul]
                · rw [xm_up_o (by decide), xm_up_o (by decide)]
                  rw [Nat.succ_mul] at hi
                  exact k7 i (by rw [g2]; exact hi)
              · skip
                exfalso
                first | (rw [g2] at c_71; exact c_71 (e47.mpr rfl)) | (rw [xl_8, nI_eq (by omega) (by omega)] at c_65; omega)
          · skip
            exfalso
            rw [g2] at c_44
            have := e59.mp (Classical.not_not.mp c_44)
            omega
      · skip
        exfalso
        simp only [xB_dec, Classical.not_not] at c_23
        exact c_23 ⟨g1, g2⟩
  · obtain ⟨J, rfl, j1, j2, j3, j4, j5, j6, j7⟩ := hV
    obtain ⟨g1, g2, g3, g4⟩ := hg
    have e59 : xlC T t (xrp T t (xq T t K0) (xgn T t K0)) = 59 := by
      rw [xl_59, xlC_eq hR.2.1 (by decide) (by decide), g2]
      exact g3
    refine xw_go xb_46 2 (f1 := (14, [.ref 43, .float 0], [.int (J 43 3)])) (h1 := (xS b, J, L, xP b)) rfl ⟨rfl, trivial⟩ ?_
    refine xw_cong (l' := [.ref 43, .float 0]) (st' := [.int (nI (K0 + 1))]) (h' := (xS b, J, L, xP b)) rfl (show ([.int (J 43 3)] : List Value) = [.int (nI (K0 + 1))] from ?_) rfl ?_
    · rw [j4]
    refine xw_go xb_46 2 (f1 := (if 8 < (nI (K0 + 1)) then 99 else 19, [.ref 43, .float 0], [])) (h1 := (xS b, J, L, xP b)) rfl trivial ?_
    refine xw_if (fun c_16 => ?_) (fun c_16 => ?_)
    · skip
      exfalso
      try simp only [xB_dec, Classical.not_not] at c_16
      try simp (disch := omega) only [xt_eq, xt_lt, xt_le, xkt_0, xkt_1, xkt_2, xkt_3, xkt_4, xkt_5, xkt_6, xkt_7, xkt_8, xkt_9, xkt_10, xkt_11, xkt_12, xkt_13, xkt_14, xkt_16, xkt_20, xkt_24, xkt_31, xkt_32, xkt_40, xkt_44, xkt_47, xkt_48, xkt_57, xkt_59, xkt_60, xkt_63, xkt_64, xkt_65, xkt_72, xkt_95, xkt_99, xkt_100, xkt_101, xkt_103, xkt_110, xkt_112, xkt_113, xkt_114, xkt_119, xkt_126, xkt_159, xkt_576, xkt_999, xkt_9999, xkt_65536, xkt_999999, xkt_m1, xkt_m2, xkt_m3, xkt_m4, xkt_m11, xkt_m12, xkt_m13, xkt_m14, xkt_m20, xjt_0, xjt_1, xjt_2, xjt_3, xjt_4, xjt_5, xjt_6, xjt_7, xjt_8, xjt_9, xjt_10, xjt_11, xjt_12, xjt_13, xjt_14, xjt_16, xjt_20, xjt_24, xjt_31, xjt_32, xjt_40, xjt_44, xjt_47, xjt_48, xjt_57, xjt_59, xjt_60, xjt_63, xjt_64, xjt_65, xjt_72, xjt_95, xjt_99, xjt_100, xjt_101, xjt_103, xjt_110, xjt_112, xjt_113, xjt_114, xjt_119, xjt_126, xjt_159, xjt_576, xjt_999, xjt_9999, xjt_65536, xjt_999999, xt64, xt_n, not_true_eq_false, not_false_eq_true, Classical.not_not] at c_16
      all_goals omega
    · skip
      refine xw_go xb_46 1 (f1 := (20, [.ref 43, .float 0], [.ref 43])) (h1 := (xS b, J, L, xP b)) rfl trivial ?_
      refine xw_call xb_46 rfl rfl rfl rfl rfl (Or.inr ⟨_, _, rfl, rfl⟩) (c_readsRow (J := J) hR (k := K0) (by omega) hc ⟨j1, j2, j3, j4, j5, j6, j7⟩) ?_
      rintro _ _ ⟨rfl, K, rfl, k1, k2, k3, k4, k5, k6, k7⟩
      have sl : xsk T t (xrp T t (xq T t K0) (xgn T t K0)) ≤ t := xsk_le (xrp_le (xq_le K0 hc) (fun j hj => xld_t (f := xfr9 T t (xq T t K0)) (xgC T t) j hj) _ (Nat.le_refl _))
      refine xw_at (f' := (23, [.ref 43, .float 0], [.int (nI (xB (decide (2 ≤ (xgC T t) ∧ xgn T t K0 = (xgC T t)))))])) (h' := (xS b, K, L, xP b)) rfl rfl ?_
      refine xw_go xb_46 1 (f1 := (if ¬ (nI (xB (decide (2 ≤ (xgC T t) ∧ xgn T t K0 = (xgC T t))))) = 0 then 28 else 26, [.ref 43, .float 0], [])) (h1 := (xS b, K, L, xP b)) rfl trivial ?_
      refine xw_if (fun c_23 => ?_) (fun c_23 => ?_)
      · skip
        refine xw_go xb_46 1 (f1 := (29, [.ref 43, .float 0], [.ref 43])) (h1 := (xS b, K, L, xP b)) rfl trivial ?_
        refine xw_call xb_46 rfl rfl rfl rfl rfl (Or.inr ⟨_, _, rfl, rfl⟩) (c_letter (I := K) (a := xsk T t (xrp T t (xq T t K0) (xgn T t K0))) (xRT_k hR k1 k2) k3 sl) ?_
        rintro _ _ ⟨rfl, rfl⟩
        refine xw_at (f' := (32, [.ref 43, .float 0], [.int (xlC T t (xsk T t (xrp T t (xq T t K0) (xgn T t K0))))])) (h' := (xS b, xm_up K 43 2 (nI (xsk T t (xsk T t (xrp T t (xq T t K0) (xgn T t K0))))), L, xP b)) rfl rfl ?_
        refine xw_cong (l' := [.ref 43, .float 0]) (st' := [.int (xlC T t (xrp T t (xq T t K0) (xgn T t K0)))]) (h' := (xS b, xm_up K 43 2 (nI (xsk T t (xsk T t (xrp T t (xq T t K0) (xgn T t K0))))), L, xP b)) rfl (show ([.int (xlC T t (xsk T t (xrp T t (xq T t K0) (xgn T t K0))))] : List Value) = [.int (xlC T t (xrp T t (xq T t K0) (xgn T t K0)))] from ?_) rfl ?_
        · rw [xlC_c (xsk_id _)]
        refine xw_at (f' := (32, [.ref 43, .float 0], [.int (xlC T t (xrp T t (xq T t K0) (xgn T t K0)))])) (h' := (xS b, K, L, xP b)) rfl (show (xS b, xm_up K 43 2 (nI (xsk T t (xsk T t (xrp T t (xq T t K0) (xgn T t K0))))), L, xP b) = (xS b, K, L, xP b) from ?_) ?_
        · rw [xsk_id, xup_me k3]
        refine xw_go xb_46 3 (f1 := (37, [.ref 43, .int (xlC T t (xrp T t (xq T t K0) (xgn T t K0)))], [.int (K 43 3)])) (h1 := (xS b, K, L, xP b)) rfl ⟨rfl, trivial⟩ ?_
        refine xw_cong (l' := [.ref 43, .int (xlC T t (xrp T t (xq T t K0) (xgn T t K0)))]) (st' := [.int (nI (K0 + 1))]) (h' := (xS b, K, L, xP b)) rfl (show ([.int (K 43 3)] : List Value) = [.int (nI (K0 + 1))] from ?_) rfl ?_
        · rw [k4]
        refine xw_go xb_46 2 (f1 := (if (nI (K0 + 1)) < 2 then 59 else 41, [.ref 43, .int (xlC T t (xrp T t (xq T t K0) (xgn T t K0)))], [])) (h1 := (xS b, K, L, xP b)) rfl trivial ?_
        refine xw_if (fun c_38 => ?_) (fun c_38 => ?_)
        · skip
          exfalso
          first | exact c_44 e59 | (rw [xl_2, nI_ltI (by omega) (by omega)] at c_38; omega)
        · skip
          refine xw_go xb_46 3 (f1 := (if ¬ (xlC T t (xrp T t (xq T t K0) (xgn T t K0))) = 59 then 59 else 47, [.ref 43, .int (xlC T t (xrp T t (xq T t K0) (xgn T t K0)))], [])) (h1 := (xS b, K, L, xP b)) rfl trivial ?_
          refine xw_if (fun c_44 => ?_) (fun c_44 => ?_)
          · skip
            exfalso
            first | exact c_44 e59 | (rw [xl_2, nI_ltI (by omega) (by omega)] at c_38; omega)
          · skip
            refine xw_go xb_46 7 (f1 := (58, [.ref 43, .int (xlC T t (xrp T t (xq T t K0) (xgn T t K0)))], [.int 1])) (h1 := (xS b, xm_up K 43 2 ((K 43 2) + 1), L, xP b)) rfl ⟨rfl, rfl, trivial⟩ ?_
            refine xw_ret xb_46 rfl rfl ?_ ?_
            · first | exact Or.inl rfl | exact Or.inr rfl
            refine ⟨rfl, _, rfl, fun a h1 h2 => ?_, ?_, ?_, ?_, ?_, fun i hi => ?_⟩
            · rw [xm_up_o h1]
              exact k1 a h1 h2
            · rw [xm_up_ne (Or.inr (by decide))]
              exact k2
            · rw [xm_up_at, k3, g2, nI_1]
              rfl
            · rw [xm_up_ne (Or.inr (by decide))]
              exact k4
            · rw [xm_up_ne (Or.inr (by decide))]
              exact k5
            · rw [xm_up_o (by decide)]
              rw [Nat.succ_mul] at hi
              exact k7 i (by rw [g2]; exact hi)
      · skip
        exfalso
        simp only [xB_dec, Classical.not_not] at c_23
        exact c_23 ⟨g1, g2⟩
  · rw [xm_up_o h1, xm_up_o h1]
  · rw [xm_up_ne (Or.inr (by decide)), xm_up_ne (Or.inr (by decide))]
  · rw [xm_up_ne (Or.inr (by decide)), xm_up_ne (Or.inr (by decide))]
    exact h2
  · rw [xm_up_at]
    rfl
  · rw [xm_up_ne (Or.inr (by decide)), xm_up_at, Nat.zero_mul]
    rfl

theorem c_rowsB {d : Nat} {b : Bool} {I : Nat → Nat → Int32} {L : Nat → Nat → Int64} {T : Nat → Nat} {t : Nat} (hR : xRT T t I) (h2 : I 43 2 = nI 0) {K0 : Nat} (hK0 : K0 ≤ 7) (hc : ∀ j, j < K0 → xgc T t j) (hn : ¬ xgc T t K0) (hg : ¬ xgg T t K0) : xm_Z (d + 3) 46 [.ref 43] (xS b, I, L, xP b) (fun rz hz => rz = some (.int 0) ∧ ∃ I', hz = (xS b, I', L, xP b) ∧ (∀ a, a ≠ 43 → a ≠ 44 → I' a = I a) ∧ I' 43 2 = nI (xsk T t (xrp T t (xq T t K0) (xgn T t K0)))) := by
  refine xw_S xb_46 (l := [.ref 43, .float 0]) (Nat.le_of_ble_eq_true rfl) rfl ?_
  refine xw_go xb_46 6 (f1 := (10, [.ref 43, .float 0], [])) (h1 := (xS b, xm_up (xm_up I 43 5 0) 43 3 1, L, xP b)) rfl ⟨rfl, rfl, trivial⟩ ?_
  refine xw_loopP K0 (fun k => (10, [.ref 43, .float 0], [])) (fun k h => ∃ J, h = (xS b, J, L, xP b) ∧ xRK T t k I J) (fun k h hk hV ih => ?_) (fun h hV => ?_) 0 _ (Nat.zero_le _) ⟨_, rfl, fun a h1 h2 => ?_, ?_, ?_, ?_, fun q => absurd q (by decide), ?_, fun i hi => absurd hi (by omega)⟩
  · obtain ⟨J, rfl, j1, j2, j3, j4, j5, j6, j7⟩ := hV
    have gk := hc k hk
    have hcn : ∀ j, j < k → xgc T t j := fun j hj => hc j (by omega)
    obtain ⟨g1, g2, g3, g4⟩ := gk
    have e59 : xlC T t (xrp T t (xq T t k) (xgn T t k)) = 59 ↔ xlt T t (xrp T t (xq T t k) (xgn T t k)) = 59 := xlC_eq hR.2.1 (by decide) (by decide)
    have e47 : xlC T t (xrp T t (xq T t k) (xgn T t k)) = 47 ↔ xlt T t (xrp T t (xq T t k) (xgn T t k)) = 47 := xlC_eq hR.2.1 (by decide) (by decide)
    rw [g2, g3] at e59 e47
    refine xw_go xb_46 2 (f1 := (14, [.ref 43, .float 0], [.int (J 43 3)])) (h1 := (xS b, J, L, xP b)) rfl ⟨rfl, trivial⟩ ?_
    refine xw_cong (l' := [.ref 43, .float 0]) (st' := [.int (nI (k + 1))]) (h' := (xS b, J, L, xP b)) rfl (show ([.int (J 43 3)] : List Value) = [.int (nI (k + 1))] from ?_) rfl ?_
    · rw [j4]
    refine xw_go xb_46 2 (f1 := (if 8 < (nI (k + 1)) then 99 else 19, [.ref 43, .float 0], [])) (h1 := (xS b, J, L, xP b)) rfl trivial ?_
    refine xw_if (fun c_16 => ?_) (fun c_16 => ?_)
    · skip
      exfalso
      try simp only [xB_dec, Classical.not_not] at c_16
      try simp (disch := omega) only [xt_eq, xt_lt, xt_le, xkt_0, xkt_1, xkt_2, xkt_3, xkt_4, xkt_5, xkt_6, xkt_7, xkt_8, xkt_9, xkt_10, xkt_11, xkt_12, xkt_13, xkt_14, xkt_16, xkt_20, xkt_24, xkt_31, xkt_32, xkt_40, xkt_44, xkt_47, xkt_48, xkt_57, xkt_59, xkt_60, xkt_63, xkt_64, xkt_65, xkt_72, xkt_95, xkt_99, xkt_100, xkt_101, xkt_103, xkt_110, xkt_112, xkt_113, xkt_114, xkt_119, xkt_126, xkt_159, xkt_576, xkt_999, xkt_9999, xkt_65536, xkt_999999, xkt_m1, xkt_m2, xkt_m3, xkt_m4, xkt_m11, xkt_m12, xkt_m13, xkt_m14, xkt_m20, xjt_0, xjt_1, xjt_2, xjt_3, xjt_4, xjt_5, xjt_6, xjt_7, xjt_8, xjt_9, xjt_10, xjt_11, xjt_12, xjt_13, xjt_14, xjt_16, xjt_20, xjt_24, xjt_31, xjt_32, xjt_40, xjt_44, xjt_47, xjt_48, xjt_57, xjt_59, xjt_60, xjt_63, xjt_64, xjt_65, xjt_72, xjt_95, xjt_99, xjt_100, xjt_101, xjt_103, xjt_110, xjt_112, xjt_113, xjt_114, xjt_119, xjt_126, xjt_159, xjt_576, xjt_999, xjt_9999, xjt_65536, xjt_999999, xt64, xt_n, not_true_eq_false, not_false_eq_true, Classical.not_not] at c_16
      all_goals omega
    · skip
      refine xw_go xb_46 1 (f1 := (20, [.ref 43, .float 0], [.ref 43])) (h1 := (xS b, J, L, xP b)) rfl trivial ?_
      refine xw_call xb_46 rfl rfl rfl rfl rfl (Or.inr ⟨_, _, rfl, rfl⟩) (c_readsRow (J := J) hR (k := k) (by omega) hcn ⟨j1, j2, j3, j4, j5, j6, j7⟩) ?_
      rintro _ _ ⟨rfl, K, rfl, k1, k2, k3, k4, k5, k6, k7⟩
      have sl : xsk T t (xrp T t (xq T t k) (xgn T t k)) ≤ t := xsk_le (xrp_le (xq_le k hcn) (fun j hj => xld_t (f := xfr9 T t (xq T t k)) (xgC T t) j hj) _ (Nat.le_refl _))
      refine xw_at (f' := (23, [.ref 43, .float 0], [.int (nI (xB (decide (2 ≤ (xgC T t) ∧ xgn T t k = (xgC T t)))))])) (h' := (xS b, K, L, xP b)) rfl rfl ?_
      refine xw_go xb_46 1 (f1 := (if ¬ (nI (xB (decide (2 ≤ (xgC T t) ∧ xgn T t k = (xgC T t))))) = 0 then 28 else 26, [.ref 43, .float 0], [])) (h1 := (xS b, K, L, xP b)) rfl trivial ?_
      refine xw_if (fun c_23 => ?_) (fun c_23 => ?_)
      · skip
        refine xw_go xb_46 1 (f1 := (29, [.ref 43, .float 0], [.ref 43])) (h1 := (xS b, K, L, xP b)) rfl trivial ?_
        refine xw_call xb_46 rfl rfl rfl rfl rfl (Or.inr ⟨_, _, rfl, rfl⟩) (c_letter (I := K) (a := xsk T t (xrp T t (xq T t k) (xgn T t k))) (xRT_k hR k1 k2) k3 sl) ?_
        rintro _ _ ⟨rfl, rfl⟩
        refine xw_at (f' := (32, [.ref 43, .float 0], [.int (xlC T t (xsk T t (xrp T t (xq T t k) (xgn T t k))))])) (h' := (xS b, xm_up K 43 2 (nI (xsk T t (xsk T t (xrp T t (xq T t k) (xgn T t k))))), L, xP b)) rfl rfl ?_
        refine xw_cong (l' := [.ref 43, .float 0]) (st' := [.int (xlC T t (xrp T t (xq T t k) (xgn T t k)))]) (h' := (xS b, xm_up K 43 2 (nI (xsk T t (xsk T t (xrp T t (xq T t k) (xgn T t k))))), L, xP b)) rfl (show ([.int (xlC T t (xsk T t (xrp T t (xq T t k) (xgn T t k))))] : List Value) = [.int (xlC T t (xrp T t (xq T t k) (xgn T t k)))] from ?_) rfl ?_
        · rw [xlC_c (xsk_id _)]
        refine xw_at (f' := (32, [.ref 43, .float 0], [.int (xlC T t (xrp T t (xq T t k) (xgn T t k)))])) (h' := (xS b, K, L, xP b)) rfl (show (xS b, xm_up K 43 2 (nI (xsk T t (xsk T t (xrp T t (xq T t k) (xgn T t k))))), L, xP b) = (xS b, K, L, xP b) from ?_) ?_
        · rw [xsk_id, xup_me k3]
        refine xw_go xb_46 3 (f1 := (37, [.ref 43, .int (xlC T t (xrp T t (xq T t k) (xgn T t k)))], [.int (K 43 3)])) (h1 := (xS b, K, L, xP b)) rfl ⟨rfl, trivial⟩ ?_
        refine xw_cong (l' := [.ref 43, .int (xlC T t (xrp T t (xq T t k) (xgn T t k)))]) (st' := [.int (nI (k + 1))]) (h' := (xS b, K, L, xP b)) rfl (show ([.int (K 43 3)] : List Value) = [.int (nI (k + 1))] from ?_) rfl ?_
        · rw [k4]
        refine xw_go xb_46 2 (f1 := (if (nI (k + 1)) < 2 then 59 else 41, [.ref 43, .int (xlC T t (xrp T t (xq T t k) (xgn T t k)))], [])) (h1 := (xS b, K, L, xP b)) rfl trivial ?_
        refine xw_if (fun c_38 => ?_) (fun c_38 => ?_)
        · skip
          refine xw_go xb_46 2 (f1 := (63, [.ref 43, .int (xlC T t (xrp T t (xq T t k) (xgn T t k)))], [.int (K 43 3)])) (h1 := (xS b, K, L, xP b)) rfl ⟨rfl, trivial⟩ ?_
          refine xw_cong (l' := [.ref 43, .int (xlC T t (xrp T t (xq T t k) (xgn T t k)))]) (st' := [.int (nI (k + 1))]) (h' := (xS b, K, L, xP b)) rfl (show ([.int (K 43 3)] : List Value) = [.int (nI (k + 1))] from ?_) rfl ?_
          · rw [k4]
          refine xw_go xb_46 2 (f1 := (if (nI (k + 1)) = 8 then 74 else 68, [.ref 43, .int (xlC T t (xrp T t (xq T t k) (xgn T t k)))], [])) (h1 := (xS b, K, L, xP b)) rfl trivial ?_
          refine xw_if (fun c_65 => ?_) (fun c_65 => ?_)
          · skip
            exfalso
            first | (rw [g2] at c_71; exact c_71 (e47.mpr rfl)) | (rw [xl_8, nI_eq (by omega) (by omega)] at c_65; omega)
          · skip
            refine xw_go xb_46 3 (f1 := (if (xlC T t (xrp T t (xq T t k) (xgn T t k))) = 47 then 76 else 74, [.ref 43, .int (xlC T t (xrp T t (xq T t k) (xgn T t k)))], [])) (h1 := (xS b, K, L, xP b)) rfl trivial ?_
            refine xw_if (fun c_71 => ?_) (fun c_71 => ?_)
            · skip
              refine xw_go xb_46 6 (f1 := (86, [.ref 43, .int (xlC T t (xrp T t (xq T t k) (xgn T t k)))], [])) (h1 := (xS b, xm_up K 43 2 ((K 43 2) + 1), L, xP b)) rfl ⟨rfl, rfl, trivial⟩ ?_
              refine xw_at (f' := (86, [.ref 43, .int (xlC T t (xrp T t (xq T t k) (xgn T t k)))], [])) (h' := (xS b, xm_up K 43 2 (nI (xq T t (k + 1))), L, xP b)) rfl (show (xS b, xm_up K 43 2 ((K 43 2) + 1), L, xP b) = (xS b, xm_up K 43 2 (nI (xq T t (k + 1))), L, xP b) from ?_) ?_
              · rw [k3, g2, nI_1]
                rfl
              refine xw_go xb_46 6 (f1 := (96, [.ref 43, .int (xlC T t (xrp T t (xq T t k) (xgn T t k)))], [])) (h1 := (xS b, xm_up (xm_up K 43 2 (nI (xq T t (k + 1)))) 43 3 (((xm_up K 43 2 (nI (xq T t (k + 1)))) 43 3) + 1), L, xP b)) rfl ⟨rfl, rfl, trivial⟩ ?_
              refine xw_at (f' := (96, [.ref 43, .int (xlC T t (xrp T t (xq T t k) (xgn T t k)))], [])) (h' := (xS b, xm_up (xm_up K 43 2 (nI (xq T t (k + 1)))) 43 3 (nI (k + 1 + 1)), L, xP b)) rfl (show (xS b, xm_up (xm_up K 43 2 (nI (xq T t (k + 1)))) 43 3 (((xm_up K 43 2 (nI (xq T t (k + 1)))) 43 3) + 1), L, xP b) = (xS b, xm_up (xm_up K 43 2 (nI (xq T t (k + 1)))) 43 3 (nI (k + 1 + 1)), L, xP b) from ?_) ?_
              · rw [xm_up_ne (Or.inr (by decide)), k4, nI_1]
              refine xw_go xb_46 1 (f1 := (10, [.ref 43, .int (xlC T t (xrp T t (xq T t k) (xgn T t k)))], [])) (h1 := (xS b, xm_up (xm_up K 43 2 (nI (xq T t (k + 1)))) 43 3 (nI (k + 1 + 1)), L, xP b)) rfl trivial ?_
              refine xw_fg (l0 := [.ref 43, .float 0]) ⟨Or.inr rfl, Or.inl rfl, trivial⟩ ?_
              refine xw_cong rfl rfl rfl (ih _ ⟨_, rfl, fun a h1 h2 => ?_, ?_, ?_, ?_, fun _ => ?_, ?_, fun i hi => ?_⟩)
              · rw [xm_up_o h1, xm_up_o h1]
                exact k1 a h1 h2
              · rw [xm_up_ne (Or.inr (by decide)), xm_up_ne (Or.inr (by decide))]
                exact k2
              · rw [xm_up_ne (Or.inr (by decide)), xm_up_at]
              · rw [xm_up_at]
              · rw [xm_up_ne (Or.inr (by decide)), xm_up_ne (Or.inr (by decide))]
                exact k5
              · rw [xm_up_ne (Or.inr (by decide)), xm_up_ne (Or.inr (by decide)), k6, g2, Nat.succ_mul]
              · rw [xm_up_o (by decide), xm_up_o (by decide)]
                rw [Nat.succ_mul] at hi
                exact k7 i (by rw [g2]; exact hi)
            · skip
              exfalso
              first | (rw [g2] at c_71; exact c_71 (e47.mpr rfl)) | (rw [xl_8, nI_eq (by omega) (by omega)] at c_65; omega)
        · skip
          refine xw_go xb_46 3 (f1 := (if ¬ (xlC T t (xrp T t (xq T t k) (xgn T t k))) = 59 then 59 else 47, [.ref 43, .int (xlC T t (xrp T t (xq T t k) (xgn T t k)))], [])) (h1 := (xS b, K, L, xP b)) rfl trivial ?_
          refine xw_if (fun c_44 => ?_) (fun c_44 => ?_)
          · skip
            refine xw_go xb_46 2 (f1 := (63, [.ref 43, .int (xlC T t (xrp T t (xq T t k) (xgn T t k)))], [.int (K 43 3)])) (h1 := (xS b, K, L, xP b)) rfl ⟨rfl, trivial⟩ ?_
            refine xw_cong (l' := [.ref 43, .int (xlC T t (xrp T t (xq T t k) (xgn T t k)))]) (st' := [.int (nI (k + 1))]) (h' := (xS b, K, L, xP b)) rfl (show ([.int (K 43 3)] : List Value) = [.int (nI (k + 1))] from ?_) rfl ?_
            · rw [k4]
            refine xw_go xb_46 2 (f1 := (if (nI (k + 1)) = 8 then 74 else 68, [.ref 43, .int (xlC T t (xrp T t (xq T t k) (xgn T t k)))], [])) (h1 := (xS b, K, L, xP b)) rfl trivial ?_
            refine xw_if (fun c_65 => ?_) (fun c_65 => ?_)
            · skip
              exfalso
              first | (rw [g2] at c_71; exact c_71 (e47.mpr rfl)) | (rw [xl_8, nI_eq (by omega) (by omega)] at c_65; omega)
            · skip
              refine xw_go xb_46 3 (f1 := (if (xlC T t (xrp T t (xq T t k) (xgn T t k))) = 47 then 76 else 74, [.ref 43, .int (xlC T t (xrp T t (xq T t k) (xgn T t k)))], [])) (h1 := (xS b, K, L, xP b)) rfl trivial ?_
              refine xw_if (fun c_71 => ?_) (fun c_71 => ?_)
              · skip
                refine xw_go xb_46 6 (f1 := (86, [.ref 43, .int (xlC T t (xrp T t (xq T t k) (xgn T t k)))], [])) (h1 := (xS b, xm_up K 43 2 ((K 43 2) + 1), L, xP b)) rfl ⟨rfl, rfl, trivial⟩ ?_
                refine xw_at (f' := (86, [.ref 43, .int (xlC T t (xrp T t (xq T t k) (xgn T t k)))], [])) (h' := (xS b, xm_up K 43 2 (nI (xq T t (k + 1))), L, xP b)) rfl (show (xS b, xm_up K 43 2 ((K 43 2) + 1), L, xP b) = (xS b, xm_up K 43 2 (nI (xq T t (k + 1))), L, xP b) from ?_) ?_
                · rw [k3, g2, nI_1]
                  rfl
                refine xw_go xb_46 6 (f1 := (96, [.ref 43, .int (xlC T t (xrp T t (xq T t k) (xgn T t k)))], [])) (h1 := (xS b, xm_up (xm_up K 43 2 (nI (xq T t (k + 1)))) 43 3 (((xm_up K 43 2 (nI (xq T t (k + 1)))) 43 3) + 1), L, xP b)) rfl ⟨rfl, rfl, trivial⟩ ?_
                refine xw_at (f' := (96, [.ref 43, .int (xlC T t (xrp T t (xq T t k) (xgn T t k)))], [])) (h' := (xS b, xm_up (xm_up K 43 2 (nI (xq T t (k + 1)))) 43 3 (nI (k + 1 + 1)), L, xP b)) rfl (show (xS b, xm_up (xm_up K 43 2 (nI (xq T t (k + 1)))) 43 3 (((xm_up K 43 2 (nI (xq T t (k + 1)))) 43 3) + 1), L, xP b) = (xS b, xm_up (xm_up K 43 2 (nI (xq T t (k + 1)))) 43 3 (nI (k + 1 + 1)), L, xP b) from ?_) ?_
                · rw [xm_up_ne (Or.inr (by decide)), k4, nI_1]
                refine xw_go xb_46 1 (f1 := (10, [.ref 43, .int (xlC T t (xrp T t (xq T t k) (xgn T t k)))], [])) (h1 := (xS b, xm_up (xm_up K 43 2 (nI (xq T t (k + 1)))) 43 3 (nI (k + 1 + 1)), L, xP b)) rfl trivial ?_
                refine xw_fg (l0 := [.ref 43, .float 0]) ⟨Or.inr rfl, Or.inl rfl, trivial⟩ ?_
                refine xw_cong rfl rfl rfl (ih _ ⟨_, rfl, fun a h1 h2 => ?_, ?_, ?_, ?_, fun _ => ?_, ?_, fun i hi => ?_⟩)
                · rw [xm_up_o h1, xm_up_o h1]
                  exact k1 a h1 h2
                · rw [xm_up_ne (Or.inr (by decide)), xm_up_ne (Or.inr (by decide))]
                  exact k2
                · rw [xm_up_ne (Or.inr (by decide)), xm_up_at]
                · rw [xm_up_at]
                · rw [xm_up_ne (Or.inr (by decide)), xm_up_ne (Or.inr (by decide))]
                  exact k5
                · rw [xm_up_ne (Or.inr (by decide)), xm_up_ne (Or.inr (by decide)), k6, g2, Nat.succ_mul]
                · rw [xm_up_o (by decide), xm_up_o (by decide)]
                  rw [Nat.succ_mul] at hi
                  exact k7 i (by rw [g2]; exact hi)
              · skip
                exfalso
                first | (rw [g2] at c_71; exact c_71 (e47.mpr rfl)) | (rw [xl_8, nI_eq (by omega) (by omega)] at c_65; omega)
          · skip
            exfalso
            rw [g2] at c_44
            have := e59.mp (Classical.not_not.mp c_44)
            omega
      · skip
        exfalso
        simp only [xB_dec, Classical.not_not] at c_23
        exact c_23 ⟨g1, g2⟩
  · obtain ⟨J, rfl, j1, j2, j3, j4, j5, j6, j7⟩ := hV
    have e59 : xlC T t (xrp T t (xq T t K0) (xgn T t K0)) = 59 ↔ xlt T t (xrp T t (xq T t K0) (xgn T t K0)) = 59 := xlC_eq hR.2.1 (by decide) (by decide)
    have e47 : xlC T t (xrp T t (xq T t K0) (xgn T t K0)) = 47 ↔ xlt T t (xrp T t (xq T t K0) (xgn T t K0)) = 47 := xlC_eq hR.2.1 (by decide) (by decide)
    refine xw_go xb_46 2 (f1 := (14, [.ref 43, .float 0], [.int (J 43 3)])) (h1 := (xS b, J, L, xP b)) rfl ⟨rfl, trivial⟩ ?_
    refine xw_cong (l' := [.ref 43, .float 0]) (st' := [.int (nI (K0 + 1))]) (h' := (xS b, J, L, xP b)) rfl (show ([.int (J 43 3)] : List Value) = [.int (nI (K0 + 1))] from ?_) rfl ?_
    · rw [j4]
    refine xw_go xb_46 2 (f1 := (if 8 < (nI (K0 + 1)) then 99 else 19, [.ref 43, .float 0], [])) (h1 := (xS b, J, L, xP b)) rfl trivial ?_
    refine xw_if (fun c_16 => ?_) (fun c_16 => ?_)
    · skip
      exfalso
      try simp only [xB_dec, Classical.not_not] at c_16
      try simp (disch := omega) only [xt_eq, xt_lt, xt_le, xkt_0, xkt_1, xkt_2, xkt_3, xkt_4, xkt_5, xkt_6, xkt_7, xkt_8, xkt_9, xkt_10, xkt_11, xkt_12, xkt_13, xkt_14, xkt_16, xkt_20, xkt_24, xkt_31, xkt_32, xkt_40, xkt_44, xkt_47, xkt_48, xkt_57, xkt_59, xkt_60, xkt_63, xkt_64, xkt_65, xkt_72, xkt_95, xkt_99, xkt_100, xkt_101, xkt_103, xkt_110, xkt_112, xkt_113, xkt_114, xkt_119, xkt_126, xkt_159, xkt_576, xkt_999, xkt_9999, xkt_65536, xkt_999999, xkt_m1, xkt_m2, xkt_m3, xkt_m4, xkt_m11, xkt_m12, xkt_m13, xkt_m14, xkt_m20, xjt_0, xjt_1, xjt_2, xjt_3, xjt_4, xjt_5, xjt_6, xjt_7, xjt_8, xjt_9, xjt_10, xjt_11, xjt_12, xjt_13, xjt_14, xjt_16, xjt_20, xjt_24, xjt_31, xjt_32, xjt_40, xjt_44, xjt_47, xjt_48, xjt_57, xjt_59, xjt_60, xjt_63, xjt_64, xjt_65, xjt_72, xjt_95, xjt_99, xjt_100, xjt_101, xjt_103, xjt_110, xjt_112, xjt_113, xjt_114, xjt_119, xjt_126, xjt_159, xjt_576, xjt_999, xjt_9999, xjt_65536, xjt_999999, xt64, xt_n, not_true_eq_false, not_false_eq_true, Classical.not_not] at c_16
      all_goals omega
    · skip
      refine xw_go xb_46 1 (f1 := (20, [.ref 43, .float 0], [.ref 43])) (h1 := (xS b, J, L, xP b)) rfl trivial ?_
      refine xw_call xb_46 rfl rfl rfl rfl rfl (Or.inr ⟨_, _, rfl, rfl⟩) (c_readsRow (J := J) hR (k := K0) (by omega) hc ⟨j1, j2, j3, j4, j5, j6, j7⟩) ?_
      rintro _ _ ⟨rfl, K, rfl, k1, k2, k3, k4, k5, k6, k7⟩
      have sl : xsk T t (xrp T t (xq T t K0) (xgn T t K0)) ≤ t := xsk_le (xrp_le (xq_le K0 hc) (fun j hj => xld_t (f := xfr9 T t (xq T t K0)) (xgC T t) j hj) _ (Nat.le_refl _))
      refine xw_at (f' := (23, [.ref 43, .float 0], [.int (nI (xB (decide (2 ≤ (xgC T t) ∧ xgn T t K0 = (xgC T t)))))])) (h' := (xS b, K, L, xP b)) rfl rfl ?_
      refine xw_go xb_46 1 (f1 := (if ¬ (nI (xB (decide (2 ≤ (xgC T t) ∧ xgn T t K0 = (xgC T t))))) = 0 then 28 else 26, [.ref 43, .float 0], [])) (h1 := (xS b, K, L, xP b)) rfl trivial ?_
      refine xw_if (fun c_23 => ?_) (fun c_23 => ?_)
      · skip
        refine xw_go xb_46 1 (f1 := (29, [.ref 43, .float 0], [.ref 43])) (h1 := (xS b, K, L, xP b)) rfl trivial ?_
        refine xw_call xb_46 rfl rfl rfl rfl rfl (Or.inr ⟨_, _, rfl, rfl⟩) (c_letter (I := K) (a := xsk T t (xrp T t (xq T t K0) (xgn T t K0))) (xRT_k hR k1 k2) k3 sl) ?_
        rintro _ _ ⟨rfl, rfl⟩
        refine xw_at (f' := (32, [.ref 43, .float 0], [.int (xlC T t (xsk T t (xrp T t (xq T t K0) (xgn T t K0))))])) (h' := (xS b, xm_up K 43 2 (nI (xsk T t (xsk T t (xrp T t (xq T t K0) (xgn T t K0))))), L, xP b)) rfl rfl ?_
        refine xw_cong (l' := [.ref 43, .float 0]) (st' := [.int (xlC T t (xrp T t (xq T t K0) (xgn T t K0)))]) (h' := (xS b, xm_up K 43 2 (nI (xsk T t (xsk T t (xrp T t (xq T t K0) (xgn T t K0))))), L, xP b)) rfl (show ([.int (xlC T t (xsk T t (xrp T t (xq T t K0) (xgn T t K0))))] : List Value) = [.int (xlC T t (xrp T t (xq T t K0) (xgn T t K0)))] from ?_) rfl ?_
        · rw [xlC_c (xsk_id _)]
        refine xw_at (f' := (32, [.ref 43, .float 0], [.int (xlC T t (xrp T t (xq T t K0) (xgn T t K0)))])) (h' := (xS b, K, L, xP b)) rfl (show (xS b, xm_up K 43 2 (nI (xsk T t (xsk T t (xrp T t (xq T t K0) (xgn T t K0))))), L, xP b) = (xS b, K, L, xP b) from ?_) ?_
        · rw [xsk_id, xup_me k3]
        refine xw_go xb_46 3 (f1 := (37, [.ref 43, .int (xlC T t (xrp T t (xq T t K0) (xgn T t K0)))], [.int (K 43 3)])) (h1 := (xS b, K, L, xP b)) rfl ⟨rfl, trivial⟩ ?_
        refine xw_cong (l' := [.ref 43, .int (xlC T t (xrp T t (xq T t K0) (xgn T t K0)))]) (st' := [.int (nI (K0 + 1))]) (h' := (xS b, K, L, xP b)) rfl (show ([.int (K 43 3)] : List Value) = [.int (nI (K0 + 1))] from ?_) rfl ?_
        · rw [k4]
        refine xw_go xb_46 2 (f1 := (if (nI (K0 + 1)) < 2 then 59 else 41, [.ref 43, .int (xlC T t (xrp T t (xq T t K0) (xgn T t K0)))], [])) (h1 := (xS b, K, L, xP b)) rfl trivial ?_
        refine xw_if (fun c_38 => ?_) (fun c_38 => ?_)
        · skip
          refine xw_go xb_46 2 (f1 := (63, [.ref 43, .int (xlC T t (xrp T t (xq T t K0) (xgn T t K0)))], [.int (K 43 3)])) (h1 := (xS b, K, L, xP b)) rfl ⟨rfl, trivial⟩ ?_
          refine xw_cong (l' := [.ref 43, .int (xlC T t (xrp T t (xq T t K0) (xgn T t K0)))]) (st' := [.int (nI (K0 + 1))]) (h' := (xS b, K, L, xP b)) rfl (show ([.int (K 43 3)] : List Value) = [.int (nI (K0 + 1))] from ?_) rfl ?_
          · rw [k4]
          refine xw_go xb_46 2 (f1 := (if (nI (K0 + 1)) = 8 then 74 else 68, [.ref 43, .int (xlC T t (xrp T t (xq T t K0) (xgn T t K0)))], [])) (h1 := (xS b, K, L, xP b)) rfl trivial ?_
          refine xw_if (fun c_65 => ?_) (fun c_65 => ?_)
          · skip
            refine xw_go xb_46 1 (f1 := (75, [.ref 43, .int (xlC T t (xrp T t (xq T t K0) (xgn T t K0)))], [.int 0])) (h1 := (xS b, K, L, xP b)) rfl trivial ?_
            refine xw_ret xb_46 rfl rfl ?_ ?_
            · first | exact Or.inl rfl | exact Or.inr rfl
            exact ⟨rfl, _, rfl, k1, k3⟩
          · skip
            refine xw_go xb_46 3 (f1 := (if (xlC T t (xrp T t (xq T t K0) (xgn T t K0))) = 47 then 76 else 74, [.ref 43, .int (xlC T t (xrp T t (xq T t K0) (xgn T t K0)))], [])) (h1 := (xS b, K, L, xP b)) rfl trivial ?_
            refine xw_if (fun c_71 => ?_) (fun c_71 => ?_)
            · skip
              exfalso
              simp only [xB_dec, Classical.not_not] at c_23
              rw [e47, c_23.2] at c_71
              rw [xl_8, nI_eq (by omega) (by omega)] at c_65
              exact hn ⟨c_23.1, c_23.2, c_71, by omega⟩
            · skip
              refine xw_go xb_46 1 (f1 := (75, [.ref 43, .int (xlC T t (xrp T t (xq T t K0) (xgn T t K0)))], [.int 0])) (h1 := (xS b, K, L, xP b)) rfl trivial ?_
              refine xw_ret xb_46 rfl rfl ?_ ?_
              · first | exact Or.inl rfl | exact Or.inr rfl
              exact ⟨rfl, _, rfl, k1, k3⟩
        · skip
          refine xw_go xb_46 3 (f1 := (if ¬ (xlC T t (xrp T t (xq T t K0) (xgn T t K0))) = 59 then 59 else 47, [.ref 43, .int (xlC T t (xrp T t (xq T t K0) (xgn T t K0)))], [])) (h1 := (xS b, K, L, xP b)) rfl trivial ?_
          refine xw_if (fun c_44 => ?_) (fun c_44 => ?_)
          · skip
            refine xw_go xb_46 2 (f1 := (63, [.ref 43, .int (xlC T t (xrp T t (xq T t K0) (xgn T t K0)))], [.int (K 43 3)])) (h1 := (xS b, K, L, xP b)) rfl ⟨rfl, trivial⟩ ?_
            refine xw_cong (l' := [.ref 43, .int (xlC T t (xrp T t (xq T t K0) (xgn T t K0)))]) (st' := [.int (nI (K0 + 1))]) (h' := (xS b, K, L, xP b)) rfl (show ([.int (K 43 3)] : List Value) = [.int (nI (K0 + 1))] from ?_) rfl ?_
            · rw [k4]
            refine xw_go xb_46 2 (f1 := (if (nI (K0 + 1)) = 8 then 74 else 68, [.ref 43, .int (xlC T t (xrp T t (xq T t K0) (xgn T t K0)))], [])) (h1 := (xS b, K, L, xP b)) rfl trivial ?_
            refine xw_if (fun c_65 => ?_) (fun c_65 => ?_)
            · skip
              refine xw_go xb_46 1 (f1 := (75, [.ref 43, .int (xlC T t (xrp T t (xq T t K0) (xgn T t K0)))], [.int 0])) (h1 := (xS b, K, L, xP b)) rfl trivial ?_
              refine xw_ret xb_46 rfl rfl ?_ ?_
              · first | exact Or.inl rfl | exact Or.inr rfl
              exact ⟨rfl, _, rfl, k1, k3⟩
            · skip
              refine xw_go xb_46 3 (f1 := (if (xlC T t (xrp T t (xq T t K0) (xgn T t K0))) = 47 then 76 else 74, [.ref 43, .int (xlC T t (xrp T t (xq T t K0) (xgn T t K0)))], [])) (h1 := (xS b, K, L, xP b)) rfl trivial ?_
              refine xw_if (fun c_71 => ?_) (fun c_71 => ?_)
              · skip
                exfalso
                simp only [xB_dec, Classical.not_not] at c_23
                rw [e47, c_23.2] at c_71
                rw [xl_8, nI_eq (by omega) (by omega)] at c_65
                exact hn ⟨c_23.1, c_23.2, c_71, by omega⟩
              · skip
                refine xw_go xb_46 1 (f1 := (75, [.ref 43, .int (xlC T t (xrp T t (xq T t K0) (xgn T t K0)))], [.int 0])) (h1 := (xS b, K, L, xP b)) rfl trivial ?_
                refine xw_ret xb_46 rfl rfl ?_ ?_
                · first | exact Or.inl rfl | exact Or.inr rfl
                exact ⟨rfl, _, rfl, k1, k3⟩
          · skip
            exfalso
            simp only [xB_dec, Classical.not_not] at c_23
            simp (disch := omega) only [xl_2, nI_ltI] at c_38
            rw [Classical.not_not, e59, c_23.2] at c_44
            exact hg ⟨c_23.1, c_23.2, c_44, by omega⟩
      · skip
        refine xw_go xb_46 1 (f1 := (27, [.ref 43, .float 0], [.int 0])) (h1 := (xS b, K, L, xP b)) rfl trivial ?_
        refine xw_ret xb_46 rfl rfl ?_ ?_
        · first | exact Or.inl rfl | exact Or.inr rfl
        exact ⟨rfl, _, rfl, k1, k3⟩
  · rw [xm_up_o h1, xm_up_o h1]
  · rw [xm_up_ne (Or.inr (by decide)), xm_up_ne (Or.inr (by decide))]
  · rw [xm_up_ne (Or.inr (by decide)), xm_up_ne (Or.inr (by decide))]
    exact h2
  · rw [xm_up_at]
    rfl
  · rw [xm_up_ne (Or.inr (by decide)), xm_up_at, Nat.zero_mul]
    rfl

