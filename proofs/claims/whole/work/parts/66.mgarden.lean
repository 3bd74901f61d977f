/-! ===== garden of the model, whole ===== -/
theorem m_gSprB {d : Nat} {b : Bool} {K : Nat → Nat → Int32} {L : Nat → Nat → Int64} {T : Nat → Nat} {t : Nat} (hR : xMR T t K) {k p S0 : Nat} (h6 : K 60 6 = 0) (h5 : K 60 5 = nI p) (hp : p ≤ t) (bR : 2 ≤ k + 1 ∧ k + 1 ≤ 8) (bc : 2 ≤ xgC T t ∧ xgC T t ≤ 8) (s1 : S0 ≤ 4) (s2 : ∀ j, j < S0 → xzc T t (k + 1) (xgC T t) p j) (s3 : ¬ xzc T t (k + 1) (xgC T t) p S0) (hz : ¬ xzg T t (k + 1) (xgC T t) p S0) : xm_W (d + 3) 134 (111, [.ref 60, .int (nI (xgC T t)), .int (nI (k + 1)), .float 0, .float 0], []) (xS b, K, L, xP b) (fun rz hz => rz = some (.int (-20 - nI (xsk T t (xrp T t (xsp T t p S0) (xsm T t (k + 1) (xgC T t) p S0))))) ∧ ∃ I', hz = (xS b, I', L, xP b) ∧ (∀ q, q ≠ 60 → q ≠ 66 → I' q = K q) ∧ I' 60 4 = 0 ∧ ∀ j, j ≠ 4 → j ≠ 5 → j ≠ 6 → I' 60 j = K 60 j) := by
  have m5 : xsm T t (k + 1) (xgC T t) p S0 ≤ 5 := xld_le _ _
  rcases Nat.lt_or_ge (xsm T t (k + 1) (xgC T t) p S0) 5 with hm | hm
  · skip
    refine xw_go xb_134 3 (f1 := (114, [.ref 60, .int (nI (xgC T t)), .int (nI (k + 1)), .float 0, .float 0], [.int (nI (xgC T t)), .int (nI (k + 1)), .ref 60])) (h1 := (xS b, K, L, xP b)) rfl trivial ?_
    refine xw_call xb_134 rfl rfl rfl rfl rfl (Or.inr ⟨_, _, rfl, rfl⟩) (m_sprsB (I := K) hR h6 h5 hp bR bc s1 s2 hm rfl rfl) ?_
    rintro _ _ ⟨v, rfl, M, rfl, m1, m2, m3, m4⟩
    refine xw_at (f' := (117, [.ref 60, .int (nI (xgC T t)), .int (nI (k + 1)), .float 0, .float 0], [.int v])) (h' := (xS b, M, L, xP b)) rfl rfl ?_
    refine xw_go xb_134 1 (f1 := (118, [.ref 60, .int (nI (xgC T t)), .int (nI (k + 1)), .int v, .float 0], [])) (h1 := (xS b, M, L, xP b)) rfl trivial ?_
    refine xw_fg (l0 := [.ref 60, .int (nI (xgC T t)), .int (nI (k + 1)), .float 0, .float 0]) ⟨Or.inr rfl, Or.inr rfl, Or.inr rfl, Or.inl rfl, Or.inr rfl, trivial⟩ ?_
    refine xw_Q (m_gf118 (J := M) m4 m3) ?_
    rintro _ _ ⟨rfl, rfl⟩
    refine ⟨rfl, _, rfl, fun q h1 h2 => ?_, xm_up_at _ _ _ _, fun j h1 h2 h3 => ?_⟩
    · rw [xm_up_o h1]
      exact m1 q h1 h2
    · rw [xm_up_ne (Or.inr h1)]
      exact m2 j h2 h3
  replace hm : xsm T t (k + 1) (xgC T t) p S0 = 5 := by omega
  by_cases hl : xlt T t (xrp T t (xsp T t p S0) 5) = 44
  · have h4 : S0 = 4 := by
      rcases Nat.lt_or_ge S0 4 with q | q
      · exact absurd ⟨hm, hl, q⟩ s3
      · omega
    refine xw_go xb_134 3 (f1 := (114, [.ref 60, .int (nI (xgC T t)), .int (nI (k + 1)), .float 0, .float 0], [.int (nI (xgC T t)), .int (nI (k + 1)), .ref 60])) (h1 := (xS b, K, L, xP b)) rfl trivial ?_
    refine xw_call xb_134 rfl rfl rfl rfl rfl (Or.inr ⟨_, _, rfl, rfl⟩) (m_sprs5 (I := K) hR h6 h5 hp bR bc s1 s2 h4 hm hl rfl rfl) ?_
    rintro _ _ ⟨v, rfl, M, rfl, m1, m2, m3, m4⟩
    refine xw_at (f' := (117, [.ref 60, .int (nI (xgC T t)), .int (nI (k + 1)), .float 0, .float 0], [.int v])) (h' := (xS b, M, L, xP b)) rfl rfl ?_
    refine xw_go xb_134 1 (f1 := (118, [.ref 60, .int (nI (xgC T t)), .int (nI (k + 1)), .int v, .float 0], [])) (h1 := (xS b, M, L, xP b)) rfl trivial ?_
    refine xw_fg (l0 := [.ref 60, .int (nI (xgC T t)), .int (nI (k + 1)), .float 0, .float 0]) ⟨Or.inr rfl, Or.inr rfl, Or.inr rfl, Or.inl rfl, Or.inr rfl, trivial⟩ ?_
    refine xw_Q (m_gf118 (J := M) m4 m3) ?_
    rintro _ _ ⟨rfl, rfl⟩
    refine ⟨rfl, _, rfl, fun q h1 h2 => ?_, xm_up_at _ _ _ _, fun j h1 h2 h3 => ?_⟩
    · rw [xm_up_o h1]
      exact m1 q h1 h2
    · rw [xm_up_ne (Or.inr h1)]
      exact m2 j h2 h3
  · have l126 : xlt T t (xrp T t (xsp T t p S0) 5) ≤ 126 := xlt_le hR.2.1
    have rl : (xrp T t (xsp T t p S0) 5) ≤ t := xr5_le (R := k + 1) (c := xgC T t) (xsp_le hp S0 s2) (fun j hj => xld_t 5 j (by have q := hm; unfold xsm at q; rw [q]; exact hj)) 5 (Nat.le_refl 5)
    rw [hm]
    refine xw_go xb_134 3 (f1 := (114, [.ref 60, .int (nI (xgC T t)), .int (nI (k + 1)), .float 0, .float 0], [.int (nI (xgC T t)), .int (nI (k + 1)), .ref 60])) (h1 := (xS b, K, L, xP b)) rfl trivial ?_
    refine xw_call xb_134 rfl rfl rfl rfl rfl (Or.inr ⟨_, _, rfl, rfl⟩) (m_sprsT (I := K) hR h6 h5 hp bR bc s1 s2 hm hl rfl rfl) ?_
    rintro _ _ ⟨rfl, M, rfl, m1, m2, m3, m4⟩
    refine xw_at (f' := (117, [.ref 60, .int (nI (xgC T t)), .int (nI (k + 1)), .float 0, .float 0], [.int (nI (S0 + 1))])) (h' := (xS b, M, L, xP b)) rfl rfl ?_
    refine xw_go xb_134 1 (f1 := (118, [.ref 60, .int (nI (xgC T t)), .int (nI (k + 1)), .int (nI (S0 + 1)), .float 0], [])) (h1 := (xS b, M, L, xP b)) rfl trivial ?_
    refine xw_fg (l0 := [.ref 60, .int (nI (xgC T t)), .int (nI (k + 1)), .float 0, .float 0]) ⟨Or.inr rfl, Or.inr rfl, Or.inr rfl, Or.inl rfl, Or.inr rfl, trivial⟩ ?_
    refine xw_go xb_134 3 (f1 := (123, [.ref 60, .int (nI (xgC T t)), .int (nI (k + 1)), .float 0, .float 0], [.int (M 60 6), .ref 60])) (h1 := (xS b, M, L, xP b)) rfl ⟨rfl, trivial⟩ ?_
    refine xw_cong (l' := [.ref 60, .int (nI (xgC T t)), .int (nI (k + 1)), .float 0, .float 0]) (st' := [.int 0, .ref 60]) (h' := (xS b, M, L, xP b)) rfl (show ([.int (M 60 6), .ref 60] : List Value) = [.int 0, .ref 60] from ?_) rfl ?_
    · rw [m2 6 (by decide), h6]
    refine xw_go xb_134 2 (f1 := (127, [.ref 60, .int (nI (xgC T t)), .int (nI (k + 1)), .float 0, .float 0], [.ref 60, .ref 60])) (h1 := (xS b, M, L, xP b)) rfl trivial ?_
    refine xw_call xb_134 rfl rfl rfl rfl rfl (Or.inr ⟨_, _, rfl, rfl⟩) (m_here (I := M) (a := xsk T t (xrp T t (xsp T t p S0) 5)) (xMR_fr hR (m2 4 (by decide)) (m1 64 (by decide) (by decide))) m3 (xsk_le rl)) ?_
    rintro _ _ ⟨rfl, rfl⟩
    refine xw_at (f' := (130, [.ref 60, .int (nI (xgC T t)), .int (nI (k + 1)), .float 0, .float 0], [.int (nI (xlt T t (xsk T t (xrp T t (xsp T t p S0) 5)))), .ref 60])) (h' := (xS b, xm_up M 60 5 (nI (xsk T t (xsk T t (xrp T t (xsp T t p S0) 5)))), L, xP b)) rfl rfl ?_
    refine xw_cong (l' := [.ref 60, .int (nI (xgC T t)), .int (nI (k + 1)), .float 0, .float 0]) (st' := [.int (nI (xlt T t (xrp T t (xsp T t p S0) 5))), .ref 60]) (h' := (xS b, xm_up M 60 5 (nI (xsk T t (xsk T t (xrp T t (xsp T t p S0) 5)))), L, xP b)) rfl (show ([.int (nI (xlt T t (xsk T t (xrp T t (xsp T t p S0) 5)))), .ref 60] : List Value) = [.int (nI (xlt T t (xrp T t (xsp T t p S0) 5))), .ref 60] from ?_) rfl ?_
    · rw [xlt_c (xsk_id _)]
    refine xw_at (f' := (130, [.ref 60, .int (nI (xgC T t)), .int (nI (k + 1)), .float 0, .float 0], [.int (nI (xlt T t (xrp T t (xsp T t p S0) 5))), .ref 60])) (h' := (xS b, M, L, xP b)) rfl (show (xS b, xm_up M 60 5 (nI (xsk T t (xsk T t (xrp T t (xsp T t p S0) 5)))), L, xP b) = (xS b, M, L, xP b) from ?_) ?_
    · rw [xsk_id, xup_me m3]
    refine xw_go xb_134 1 (f1 := (if (nI (xlt T t (xrp T t (xsp T t p S0) 5))) = 0 then 137 else 133, [.ref 60, .int (nI (xgC T t)), .int (nI (k + 1)), .float 0, .float 0], [.ref 60])) (h1 := (xS b, M, L, xP b)) rfl trivial ?_
    refine xw_if (fun c_130 => ?_) (fun c_130 => ?_)
    · skip
      exfalso
      rw [xl_0, nI_eq (by omega) (by omega)] at c_130
      exact hz ⟨hm, c_130⟩
    · skip
      refine xw_go xb_134 8 (f1 := (150, [.ref 60, .int (nI (xgC T t)), .int (nI (k + 1)), .float 0, .float 0], [.int ((xm_up (xm_up M 60 6 1) 60 4 0) 60 6)])) (h1 := (xS b, xm_up (xm_up M 60 6 1) 60 4 0, L, xP b)) rfl ⟨rfl, (Or.inr rfl), rfl, rfl, trivial⟩ ?_
      refine xw_cong (l' := [.ref 60, .int (nI (xgC T t)), .int (nI (k + 1)), .float 0, .float 0]) (st' := [.int 1]) (h' := (xS b, xm_up (xm_up M 60 6 1) 60 4 0, L, xP b)) rfl (show ([.int ((xm_up (xm_up M 60 6 1) 60 4 0) 60 6)] : List Value) = [.int 1] from ?_) rfl ?_
      · rw [xm_up_ne (Or.inr (by decide)), xm_up_at]
      refine xw_go xb_134 4 (f1 := (159, [.ref 60, .int (nI (xgC T t)), .int (nI (k + 1)), .float 0, .float 0], [.int ((xm_up (xm_up M 60 6 1) 60 4 0) 60 5), .int (-20)])) (h1 := (xS b, xm_up (xm_up M 60 6 1) 60 4 0, L, xP b)) rfl ⟨rfl, trivial⟩ ?_
      refine xw_cong (l' := [.ref 60, .int (nI (xgC T t)), .int (nI (k + 1)), .float 0, .float 0]) (st' := [.int (nI (xsk T t (xrp T t (xsp T t p S0) 5))), .int (-20)]) (h' := (xS b, xm_up (xm_up M 60 6 1) 60 4 0, L, xP b)) rfl (show ([.int ((xm_up (xm_up M 60 6 1) 60 4 0) 60 5), .int (-20)] : List Value) = [.int (nI (xsk T t (xrp T t (xsp T t p S0) 5))), .int (-20)] from ?_) rfl ?_
      · rw [xm_up_ne (Or.inr (by decide)), xm_up_ne (Or.inr (by decide)), m3]
      refine xw_go xb_134 1 (f1 := (160, [.ref 60, .int (nI (xgC T t)), .int (nI (k + 1)), .float 0, .float 0], [.int ((-20) - (nI (xsk T t (xrp T t (xsp T t p S0) 5))))])) (h1 := (xS b, xm_up (xm_up M 60 6 1) 60 4 0, L, xP b)) rfl trivial ?_
      refine xw_ret xb_134 rfl rfl trivial ?_
      refine ⟨rfl, _, rfl, fun q h1 h2 => ?_, xm_up_at _ _ _ _, fun j h1 h2 h3 => ?_⟩
      · rw [xm_up_o h1, xm_up_o h1]
        exact m1 q h1 h2
      · rw [xm_up_ne (Or.inr h1), xm_up_ne (Or.inr h3)]
        exact m2 j h2
theorem m_gard1 {d : Nat} {b : Bool} {I : Nat → Nat → Int32} {L : Nat → Nat → Int64} {T : Nat → Nat} {t : Nat} (hA : xTA T t 64 I) (ht : I 60 4 = nI t) (hc : xgC T t < 2) : xm_Z (d + 4) 134 [.ref 60] (xS b, I, L, xP b) (fun rz hz => rz = some (.int (-20 - nI (xsk T t (xrp T t (xq T t 0) (xgC T t))))) ∧ ∃ I', hz = (xS b, I', L, xP b) ∧ (∀ q, q ≠ 60 → q ≠ 65 → q ≠ 66 → I' q = I q) ∧ I' 60 4 = 0 ∧ ∀ j, j ≠ 4 → j ≠ 5 → j ≠ 6 → I' 60 j = I 60 j) := by
  have hR : xMR T t (xm_up (xm_up I 60 5 0) 60 6 0) := ⟨hA.1, hA.2.1, by rw [xm_up_ne (Or.inr (by decide)), xm_up_ne (Or.inr (by decide))]; exact ht, fun k hk => by rw [xm_up_o (by decide), xm_up_o (by decide)]; exact hA.2.2 k hk⟩
  have h6 : (xm_up (xm_up I 60 5 0) 60 6 0) 60 6 = 0 := xm_up_at _ _ _ _
  have h5 : (xm_up (xm_up I 60 5 0) 60 6 0) 60 5 = nI 0 := by rw [xm_up_ne (Or.inr (by decide)), xm_up_at]; rfl
  refine xw_S xb_134 (l := [.ref 60, .float 0, .float 0, .float 0, .float 0]) (Nat.le_of_ble_eq_true rfl) rfl ?_
  refine xw_go xb_134 9 (f1 := (13, [.ref 60, .float 0, .float 0, .float 0, .float 0], [.int 0, .int 0, .ref 60])) (h1 := (xS b, xm_up (xm_up I 60 5 0) 60 6 0, L, xP b)) rfl ⟨rfl, rfl, (Or.inl rfl), trivial⟩ ?_
  refine xw_call xb_134 rfl rfl rfl rfl rfl (Or.inr ⟨_, _, rfl, rfl⟩) (m_row1B (I := (xm_up (xm_up I 60 5 0) 60 6 0)) (z := 0 * xgC T t) (c := 0) (p := xq T t 0) (a := 0) (n := xgC T t) hR h6 h5 (Nat.zero_le _) rfl (Nat.zero_le _) (by omega) rfl hc (by rw [Nat.zero_mul]; rfl) rfl) ?_
  rintro _ _ ⟨v, rfl, J, rfl, m1, m2, m3, m4⟩
  refine xw_at (f' := (16, [.ref 60, .float 0, .float 0, .float 0, .float 0], [.int v])) (h' := (xS b, J, L, xP b)) rfl rfl ?_
  refine xw_go xb_134 3 (f1 := (19, [.ref 60, .int v, .int 1, .float 0, .float 0], [])) (h1 := (xS b, J, L, xP b)) rfl trivial ?_
  refine xw_Q (m_gf19 (J := J) (F := (xsk T t (xrp T t (xq T t 0) (xgC T t)))) m4 m3) ?_
  rintro _ _ ⟨rfl, rfl⟩
  refine ⟨rfl, _, rfl, fun q h1 h2 h3 => ?_, xm_up_at _ _ _ _, fun j h1 h2 h3 => ?_⟩
  · rw [xm_up_o h1, m1 q h1 h2, xm_up_o h1, xm_up_o h1]
  · rw [xm_up_ne (Or.inr h1), m2 j h2 h3, xm_up_ne (Or.inr h3), xm_up_ne (Or.inr h2)]

theorem m_gard2 {d : Nat} {b : Bool} {I : Nat → Nat → Int32} {L : Nat → Nat → Int64} {T : Nat → Nat} {t : Nat} (hA : xTA T t 64 I) (ht : I 60 4 = nI t) {K0 : Nat} (hc : 2 ≤ xgC T t) (k1 : K0 ≤ 7) (k2 : ∀ j, j < K0 → xgc T t j) (k3 : ¬ xgc T t K0) (hg : ¬ xgg T t K0) (hn : xgn T t K0 = xgC T t) : xm_Z (d + 4) 134 [.ref 60] (xS b, I, L, xP b) (fun rz hz => rz = some (.int (-20 - nI (xsk T t (xrp T t (xq T t K0) (xgC T t))))) ∧ ∃ I', hz = (xS b, I', L, xP b) ∧ (∀ q, q ≠ 60 → q ≠ 65 → q ≠ 66 → I' q = I q) ∧ I' 60 4 = 0 ∧ ∀ j, j ≠ 4 → j ≠ 5 → j ≠ 6 → I' 60 j = I 60 j) := by
  have hR : xMR T t (xm_up (xm_up I 60 5 0) 60 6 0) := ⟨hA.1, hA.2.1, by rw [xm_up_ne (Or.inr (by decide)), xm_up_ne (Or.inr (by decide))]; exact ht, fun k hk => by rw [xm_up_o (by decide), xm_up_o (by decide)]; exact hA.2.2 k hk⟩
  have h6 : (xm_up (xm_up I 60 5 0) 60 6 0) 60 6 = 0 := xm_up_at _ _ _ _
  have h5 : (xm_up (xm_up I 60 5 0) 60 6 0) 60 5 = nI 0 := by rw [xm_up_ne (Or.inr (by decide)), xm_up_at]; rfl
  refine xw_S xb_134 (l := [.ref 60, .float 0, .float 0, .float 0, .float 0]) (Nat.le_of_ble_eq_true rfl) rfl ?_
  refine xw_go xb_134 9 (f1 := (13, [.ref 60, .float 0, .float 0, .float 0, .float 0], [.int 0, .int 0, .ref 60])) (h1 := (xS b, xm_up (xm_up I 60 5 0) 60 6 0, L, xP b)) rfl ⟨rfl, rfl, (Or.inl rfl), trivial⟩ ?_
  refine xw_call xb_134 rfl rfl rfl rfl rfl (Or.inr ⟨_, _, rfl, rfl⟩) (m_row1G (I := (xm_up (xm_up I 60 5 0) 60 6 0)) (z := 0 * xgC T t) (c := 0) (p := xq T t 0) (a := 0) (n := xgC T t) hR h6 h5 (Nat.zero_le _) rfl (Nat.zero_le _) (by omega) rfl hc (by rw [Nat.zero_mul]; rfl) rfl) ?_
  rintro _ _ ⟨rfl, J, a8, rfl, m1, m2, m3, m4, m5, m6, m7⟩
  have hJ : xMK T t 0 (xm_up (xm_up I 60 5 0) 60 6 0) J := ⟨m1, m2, ⟨a8, m3, m5, m4⟩, xMK_s rfl m6 m7 (fun j hj => absurd hj (by omega))⟩
  refine xw_at (f' := (16, [.ref 60, .float 0, .float 0, .float 0, .float 0], [.int (nI (xgC T t))])) (h' := (xS b, J, L, xP b)) rfl rfl ?_
  refine xw_go xb_134 3 (f1 := (19, [.ref 60, .int (nI (xgC T t)), .int 1, .float 0, .float 0], [])) (h1 := (xS b, J, L, xP b)) rfl trivial ?_
  refine xw_cong (l' := [.ref 60, .int (nI (xgC T t)), .int (nI (0 + 1)), .float 0, .float 0]) (st' := []) (h' := (xS b, J, L, xP b)) (show ([.ref 60, .int (nI (xgC T t)), .int 1, .float 0, .float 0] : List Value) = [.ref 60, .int (nI (xgC T t)), .int (nI (0 + 1)), .float 0, .float 0] from ?_) rfl rfl ?_
  · rfl
  refine m_gRows hR h6 k2 hn (fun J2 hJ2 => ?_) hJ
  refine xw_Q (m_gEndB hR h6 k1 (fun q => k3 ⟨hc, hn, q.1, q.2⟩) (fun q => hg ⟨hc, hn, q.1, q.2⟩) hJ2) ?_
  rintro _ _ ⟨rfl, I2, rfl, n1, n2, n3⟩
  refine ⟨rfl, I2, rfl, fun q h1 h2 h3 => ?_, n2, fun j h1 h2 h3 => ?_⟩
  · rw [n1 q h1 h2, xm_up_o h1, xm_up_o h1]
  · rw [n3 j h1 h2 h3, xm_up_ne (Or.inr h3), xm_up_ne (Or.inr h2)]

theorem m_gard3 {d : Nat} {b : Bool} {I : Nat → Nat → Int32} {L : Nat → Nat → Int64} {T : Nat → Nat} {t : Nat} (hA : xTA T t 64 I) (ht : I 60 4 = nI t) {k : Nat} (hc : 2 ≤ xgC T t) (k1 : k + 1 ≤ 7) (k2 : ∀ j, j < k + 1 → xgc T t j) (hn : xgn T t (k + 1) < xgC T t) : xm_Z (d + 4) 134 [.ref 60] (xS b, I, L, xP b) (fun rz hz => rz = some (.int (-20 - nI (xsk T t (xrp T t (xq T t (k + 1)) (xgn T t (k + 1)))))) ∧ ∃ I', hz = (xS b, I', L, xP b) ∧ (∀ q, q ≠ 60 → q ≠ 65 → q ≠ 66 → I' q = I q) ∧ I' 60 4 = 0 ∧ ∀ j, j ≠ 4 → j ≠ 5 → j ≠ 6 → I' 60 j = I 60 j) := by
  have hR : xMR T t (xm_up (xm_up I 60 5 0) 60 6 0) := ⟨hA.1, hA.2.1, by rw [xm_up_ne (Or.inr (by decide)), xm_up_ne (Or.inr (by decide))]; exact ht, fun k hk => by rw [xm_up_o (by decide), xm_up_o (by decide)]; exact hA.2.2 k hk⟩
  have h6 : (xm_up (xm_up I 60 5 0) 60 6 0) 60 6 = 0 := xm_up_at _ _ _ _
  have h5 : (xm_up (xm_up I 60 5 0) 60 6 0) 60 5 = nI 0 := by rw [xm_up_ne (Or.inr (by decide)), xm_up_at]; rfl
  refine xw_S xb_134 (l := [.ref 60, .float 0, .float 0, .float 0, .float 0]) (Nat.le_of_ble_eq_true rfl) rfl ?_
  refine xw_go xb_134 9 (f1 := (13, [.ref 60, .float 0, .float 0, .float 0, .float 0], [.int 0, .int 0, .ref 60])) (h1 := (xS b, xm_up (xm_up I 60 5 0) 60 6 0, L, xP b)) rfl ⟨rfl, rfl, (Or.inl rfl), trivial⟩ ?_
  refine xw_call xb_134 rfl rfl rfl rfl rfl (Or.inr ⟨_, _, rfl, rfl⟩) (m_row1G (I := (xm_up (xm_up I 60 5 0) 60 6 0)) (z := 0 * xgC T t) (c := 0) (p := xq T t 0) (a := 0) (n := xgC T t) hR h6 h5 (Nat.zero_le _) rfl (Nat.zero_le _) (by omega) rfl hc (by rw [Nat.zero_mul]; rfl) rfl) ?_
  rintro _ _ ⟨rfl, J, a8, rfl, m1, m2, m3, m4, m5, m6, m7⟩
  have hJ : xMK T t 0 (xm_up (xm_up I 60 5 0) 60 6 0) J := ⟨m1, m2, ⟨a8, m3, m5, m4⟩, xMK_s rfl m6 m7 (fun j hj => absurd hj (by omega))⟩
  refine xw_at (f' := (16, [.ref 60, .float 0, .float 0, .float 0, .float 0], [.int (nI (xgC T t))])) (h' := (xS b, J, L, xP b)) rfl rfl ?_
  refine xw_go xb_134 3 (f1 := (19, [.ref 60, .int (nI (xgC T t)), .int 1, .float 0, .float 0], [])) (h1 := (xS b, J, L, xP b)) rfl trivial ?_
  refine xw_cong (l' := [.ref 60, .int (nI (xgC T t)), .int (nI (0 + 1)), .float 0, .float 0]) (st' := []) (h' := (xS b, J, L, xP b)) (show ([.ref 60, .int (nI (xgC T t)), .int 1, .float 0, .float 0] : List Value) = [.ref 60, .int (nI (xgC T t)), .int (nI (0 + 1)), .float 0, .float 0] from ?_) rfl rfl ?_
  · rfl
  refine m_gRows hR h6 (K1 := k) (fun j hj => k2 j (by omega)) (k2 k (by omega)).2.1 (fun J2 hJ2 => ?_) hJ
  refine xw_Q (m_gRowB hR h6 k2 hn hJ2) ?_
  rintro _ _ ⟨rfl, I2, rfl, n1, n2, n3⟩
  refine ⟨rfl, I2, rfl, fun q h1 h2 h3 => ?_, n2, fun j h1 h2 h3 => ?_⟩
  · rw [n1 q h1 h2, xm_up_o h1, xm_up_o h1]
  · rw [n3 j h1 h2 h3, xm_up_ne (Or.inr h3), xm_up_ne (Or.inr h2)]

theorem m_gard4 {d : Nat} {b : Bool} {I : Nat → Nat → Int32} {L : Nat → Nat → Int64} {T : Nat → Nat} {t : Nat} (hA : xTA T t 64 I) (ht : I 60 4 = nI t) {K0 S0 : Nat} (k1 : K0 ≤ 7) (k2 : ∀ j, j < K0 → xgc T t j) (hg : xgg T t K0) (s1 : S0 ≤ 4) (s2 : ∀ j, j < S0 → xzc T t (K0 + 1) (xgC T t) (xq T t (K0 + 1)) j) (s3 : ¬ xzc T t (K0 + 1) (xgC T t) (xq T t (K0 + 1)) S0) (hz : ¬ xzg T t (K0 + 1) (xgC T t) (xq T t (K0 + 1)) S0) : xm_Z (d + 4) 134 [.ref 60] (xS b, I, L, xP b) (fun rz hz => rz = some (.int (-20 - nI (xsk T t (xrp T t (xsp T t (xq T t (K0 + 1)) S0) (xsm T t (K0 + 1) (xgC T t) (xq T t (K0 + 1)) S0))))) ∧ ∃ I', hz = (xS b, I', L, xP b) ∧ (∀ q, q ≠ 60 → q ≠ 65 → q ≠ 66 → I' q = I q) ∧ I' 60 4 = 0 ∧ ∀ j, j ≠ 4 → j ≠ 5 → j ≠ 6 → I' 60 j = I 60 j) := by
  have hc := hg.1
  have hR : xMR T t (xm_up (xm_up I 60 5 0) 60 6 0) := ⟨hA.1, hA.2.1, by rw [xm_up_ne (Or.inr (by decide)), xm_up_ne (Or.inr (by decide))]; exact ht, fun k hk => by rw [xm_up_o (by decide), xm_up_o (by decide)]; exact hA.2.2 k hk⟩
  have h6 : (xm_up (xm_up I 60 5 0) 60 6 0) 60 6 = 0 := xm_up_at _ _ _ _
  have h5 : (xm_up (xm_up I 60 5 0) 60 6 0) 60 5 = nI 0 := by rw [xm_up_ne (Or.inr (by decide)), xm_up_at]; rfl
  refine xw_S xb_134 (l := [.ref 60, .float 0, .float 0, .float 0, .float 0]) (Nat.le_of_ble_eq_true rfl) rfl ?_
  refine xw_go xb_134 9 (f1 := (13, [.ref 60, .float 0, .float 0, .float 0, .float 0], [.int 0, .int 0, .ref 60])) (h1 := (xS b, xm_up (xm_up I 60 5 0) 60 6 0, L, xP b)) rfl ⟨rfl, rfl, (Or.inl rfl), trivial⟩ ?_
  refine xw_call xb_134 rfl rfl rfl rfl rfl (Or.inr ⟨_, _, rfl, rfl⟩) (m_row1G (I := (xm_up (xm_up I 60 5 0) 60 6 0)) (z := 0 * xgC T t) (c := 0) (p := xq T t 0) (a := 0) (n := xgC T t) hR h6 h5 (Nat.zero_le _) rfl (Nat.zero_le _) (by omega) rfl hc (by rw [Nat.zero_mul]; rfl) rfl) ?_
  rintro _ _ ⟨rfl, J, a8, rfl, m1, m2, m3, m4, m5, m6, m7⟩
  have hJ : xMK T t 0 (xm_up (xm_up I 60 5 0) 60 6 0) J := ⟨m1, m2, ⟨a8, m3, m5, m4⟩, xMK_s rfl m6 m7 (fun j hj => absurd hj (by omega))⟩
  refine xw_at (f' := (16, [.ref 60, .float 0, .float 0, .float 0, .float 0], [.int (nI (xgC T t))])) (h' := (xS b, J, L, xP b)) rfl rfl ?_
  refine xw_go xb_134 3 (f1 := (19, [.ref 60, .int (nI (xgC T t)), .int 1, .float 0, .float 0], [])) (h1 := (xS b, J, L, xP b)) rfl trivial ?_
  refine xw_cong (l' := [.ref 60, .int (nI (xgC T t)), .int (nI (0 + 1)), .float 0, .float 0]) (st' := []) (h' := (xS b, J, L, xP b)) (show ([.ref 60, .int (nI (xgC T t)), .int 1, .float 0, .float 0] : List Value) = [.ref 60, .int (nI (xgC T t)), .int (nI (0 + 1)), .float 0, .float 0] from ?_) rfl rfl ?_
  · rfl
  refine m_gRows hR h6 k2 hg.2.1 (fun J2 hJ2 => ?_) hJ
  refine m_gEndG hR h6 k1 hg hJ2 (fun K e1 e2 e3 e4 => ?_)
  refine xw_Q (m_gSprB (K := K) (xMR_fr hR (e2 4 (by decide)) (e1 64 (by decide) (by decide))) (by rw [e2 6 (by decide)]; exact h6) e3 (xgg_q hg) (by have := hg.2.2.2; omega) ⟨hc, xgC_le⟩ s1 s2 s3 hz) ?_
  rintro _ _ ⟨rfl, I2, rfl, n1, n2, n3⟩
  refine ⟨rfl, I2, rfl, fun q h1 h2 h3 => ?_, n2, fun j h1 h2 h3 => ?_⟩
  · rw [n1 q h1 h3, e1 q h1 h2, xm_up_o h1, xm_up_o h1]
  · rw [n3 j h1 h2 h3, e2 j h2, xm_up_ne (Or.inr h3), xm_up_ne (Or.inr h2)]

theorem m_garden0 {d : Nat} {b : Bool} {I : Nat → Nat → Int32} {L : Nat → Nat → Int64} {T : Nat → Nat} {t : Nat} (hA : xTA T t 64 I) (ht : I 60 4 = nI t) {F : Nat} (hF : xGF T t F) : xm_Z (d + 4) 134 [.ref 60] (xS b, I, L, xP b) (fun rz hz => rz = some (.int (-20 - nI F)) ∧ ∃ I', hz = (xS b, I', L, xP b) ∧ (∀ q, q ≠ 60 → q ≠ 65 → q ≠ 66 → I' q = I q) ∧ I' 60 4 = 0 ∧ ∀ j, j ≠ 4 → j ≠ 5 → j ≠ 6 → I' 60 j = I 60 j) := by
  obtain ⟨K0, k1, k2, k3, h⟩ := hF
  by_cases hc : 2 ≤ xgC T t
  · rcases h with ⟨hg, rfl⟩ | ⟨hg, S0, s1, s2, s3, hz, rfl⟩
    · by_cases hn : xgn T t K0 = xgC T t
      · rw [hn]
        exact m_gard2 hA ht hc k1 k2 k3 hg hn
      · have nl := xgn_le (T := T) (t := t) (k := K0)
        cases K0 with
        | zero => exact absurd xgn_0 hn
        | succ k => exact m_gard3 hA ht hc k1 k2 (by omega)
    · exact m_gard4 hA ht k1 k2 hg s1 s2 s3 hz
  · have e0 : K0 = 0 := by
      rcases Nat.eq_zero_or_pos K0 with q | q
      · exact q
      · exact absurd (k2 0 q).1 hc
    rcases h with ⟨hg, hF⟩ | ⟨hg, -⟩
    · rw [e0, xgn_0] at hF
      rw [hF]
      exact m_gard1 hA ht (by omega)
    · exact absurd hg.1 hc
set_option maxHeartbeats 4000000 in
theorem m_garden1 {d : Nat} {b : Bool} {I : Nat → Nat → Int32} {L : Nat → Nat → Int64} {N : Nat → Nat} {u : Nat} {U : Nat → Nat → Nat} (hM : xML N u U I) (hK : xUK N u U) {T : Nat → Nat} {t : Nat} (hA : xTA T t 64 I) (ht : I 60 4 = nI t) {K0 S0 : Nat} (hG : xGG T t K0 S0) : xm_Z (d + 4) 134 [.ref 60] (xS b, I, L, xP b) (fun rz hz => rz = some (.int (nI ((K0 + 1) * xgC T t))) ∧ ∃ I', hz = (xS b, I', L, xP b) ∧ xML (xgN N T t K0 S0) 0 U I' ∧ (∀ q, q < 60 ∨ 74 ≤ q ∨ q = 64 ∨ q = 69 ∨ q = 70 ∨ q = 71 → I' q = I q) ∧ I' 60 4 = 0 ∧ ∀ k, k ≠ 4 → k ≠ 5 → k ≠ 6 → k ≠ 10 → I' 60 k = I 60 k) := by
  have hbb := xGG_b hG
  have h64 : (K0 + 1) * xgC T t ≤ 64 := xmul64 hbb.1.2 hbb.2.2
  obtain ⟨k1, k2, hg, s1, s2, hz⟩ := hG
  have hc := hg.1
  have hR : xMR T t (xm_up (xm_up I 60 5 0) 60 6 0) := ⟨hA.1, hA.2.1, by rw [xm_up_ne (Or.inr (by decide)), xm_up_ne (Or.inr (by decide))]; exact ht, fun k hk => by rw [xm_up_o (by decide), xm_up_o (by decide)]; exact hA.2.2 k hk⟩
  have h6 : (xm_up (xm_up I 60 5 0) 60 6 0) 60 6 = 0 := xm_up_at _ _ _ _
  have h5 : (xm_up (xm_up I 60 5 0) 60 6 0) 60 5 = nI 0 := by rw [xm_up_ne (Or.inr (by decide)), xm_up_at]; rfl
  refine xw_S xb_134 (l := [.ref 60, .float 0, .float 0, .float 0, .float 0]) (Nat.le_of_ble_eq_true rfl) rfl ?_
  refine xw_go xb_134 9 (f1 := (13, [.ref 60, .float 0, .float 0, .float 0, .float 0], [.int 0, .int 0, .ref 60])) (h1 := (xS b, xm_up (xm_up I 60 5 0) 60 6 0, L, xP b)) rfl ⟨rfl, rfl, (Or.inl rfl), trivial⟩ ?_
  refine xw_call xb_134 rfl rfl rfl rfl rfl (Or.inr ⟨_, _, rfl, rfl⟩) (m_row1G (I := (xm_up (xm_up I 60 5 0) 60 6 0)) (z := 0 * xgC T t) (c := 0) (p := xq T t 0) (a := 0) (n := xgC T t) hR h6 h5 (Nat.zero_le _) rfl (Nat.zero_le _) (by omega) rfl hc (by rw [Nat.zero_mul]; rfl) rfl) ?_
  rintro _ _ ⟨rfl, J, a8, rfl, m1, m2, m3, m4, m5, m6, m7⟩
  have hJ : xMK T t 0 (xm_up (xm_up I 60 5 0) 60 6 0) J := ⟨m1, m2, ⟨a8, m3, m5, m4⟩, xMK_s rfl m6 m7 (fun j hj => absurd hj (by omega))⟩
  refine xw_at (f' := (16, [.ref 60, .float 0, .float 0, .float 0, .float 0], [.int (nI (xgC T t))])) (h' := (xS b, J, L, xP b)) rfl rfl ?_
  refine xw_go xb_134 3 (f1 := (19, [.ref 60, .int (nI (xgC T t)), .int 1, .float 0, .float 0], [])) (h1 := (xS b, J, L, xP b)) rfl trivial ?_
  refine xw_cong (l' := [.ref 60, .int (nI (xgC T t)), .int (nI (0 + 1)), .float 0, .float 0]) (st' := []) (h' := (xS b, J, L, xP b)) (show ([.ref 60, .int (nI (xgC T t)), .int 1, .float 0, .float 0] : List Value) = [.ref 60, .int (nI (xgC T t)), .int (nI (0 + 1)), .float 0, .float 0] from ?_) rfl rfl ?_
  · rfl
  refine m_gRows hR h6 k2 hg.2.1 (fun J2 hJ2 => ?_) hJ
  refine m_gEndG hR h6 k1 hg hJ2 (fun K e1 e2 e3 e4 => ?_)
  have rK : xMR T t K := xMR_fr hR (e2 4 (by decide)) (e1 64 (by decide) (by decide))
  have rl : (xrp T t (xsp T t (xq T t (K0 + 1)) S0) 5) ≤ t := xr5_le (R := K0 + 1) (c := xgC T t) (xsp_le (xgg_q hg) S0 s2) (fun j hj => xld_t 5 j (by have q := hz.1; unfold xsm at q; rw [q]; exact hj)) 5 (Nat.le_refl 5)
  refine xw_go xb_134 3 (f1 := (114, [.ref 60, .int (nI (xgC T t)), .int (nI (K0 + 1)), .float 0, .float 0], [.int (nI (xgC T t)), .int (nI (K0 + 1)), .ref 60])) (h1 := (xS b, K, L, xP b)) rfl trivial ?_
  refine xw_call xb_134 rfl rfl rfl rfl rfl (Or.inr ⟨_, _, rfl, rfl⟩) (m_sprsT (I := K) rK (by rw [e2 6 (by decide)]; exact h6) e3 (xgg_q hg) (by have := hg.2.2.2; omega) ⟨hc, xgC_le⟩ s1 s2 hz.1 (by rw [hz.2]; decide) rfl rfl) ?_
  rintro _ _ ⟨rfl, M, rfl, m1, m2, m3, m4⟩
  have g6 : M 60 6 = 0 := by rw [m2 6 (by decide), e2 6 (by decide)]; exact h6
  refine xw_at (f' := (117, [.ref 60, .int (nI (xgC T t)), .int (nI (K0 + 1)), .float 0, .float 0], [.int (nI (S0 + 1))])) (h' := (xS b, M, L, xP b)) rfl rfl ?_
  refine xw_go xb_134 4 (f1 := (123, [.ref 60, .int (nI (xgC T t)), .int (nI (K0 + 1)), .int (nI (S0 + 1)), .float 0], [.int (M 60 6), .ref 60])) (h1 := (xS b, M, L, xP b)) rfl ⟨rfl, trivial⟩ ?_
  refine xw_cong (l' := [.ref 60, .int (nI (xgC T t)), .int (nI (K0 + 1)), .int (nI (S0 + 1)), .float 0]) (st' := [.int 0, .ref 60]) (h' := (xS b, M, L, xP b)) rfl (show ([.int (M 60 6), .ref 60] : List Value) = [.int 0, .ref 60] from ?_) rfl ?_
  · rw [g6]
  refine xw_go xb_134 2 (f1 := (127, [.ref 60, .int (nI (xgC T t)), .int (nI (K0 + 1)), .int (nI (S0 + 1)), .float 0], [.ref 60, .ref 60])) (h1 := (xS b, M, L, xP b)) rfl trivial ?_
  refine xw_call xb_134 rfl rfl rfl rfl rfl (Or.inr ⟨_, _, rfl, rfl⟩) (m_here (I := M) (a := xsk T t (xrp T t (xsp T t (xq T t (K0 + 1)) S0) 5)) (xMR_fr rK (m2 4 (by decide)) (m1 64 (by decide) (by decide))) m3 (xsk_le rl)) ?_
  rintro _ _ ⟨rfl, rfl⟩
  refine xw_at (f' := (130, [.ref 60, .int (nI (xgC T t)), .int (nI (K0 + 1)), .int (nI (S0 + 1)), .float 0], [.int (nI (xlt T t (xsk T t (xrp T t (xsp T t (xq T t (K0 + 1)) S0) 5)))), .ref 60])) (h' := (xS b, xm_up M 60 5 (nI (xsk T t (xsk T t (xrp T t (xsp T t (xq T t (K0 + 1)) S0) 5)))), L, xP b)) rfl rfl ?_
  refine xw_cong (l' := [.ref 60, .int (nI (xgC T t)), .int (nI (K0 + 1)), .int (nI (S0 + 1)), .float 0]) (st' := [.int 0, .ref 60]) (h' := (xS b, xm_up M 60 5 (nI (xsk T t (xsk T t (xrp T t (xsp T t (xq T t (K0 + 1)) S0) 5)))), L, xP b)) rfl (show ([.int (nI (xlt T t (xsk T t (xrp T t (xsp T t (xq T t (K0 + 1)) S0) 5)))), .ref 60] : List Value) = [.int 0, .ref 60] from ?_) rfl ?_
  · rw [xlt_c (xsk_id _), hz.2]
    rfl
  refine xw_at (f' := (130, [.ref 60, .int (nI (xgC T t)), .int (nI (K0 + 1)), .int (nI (S0 + 1)), .float 0], [.int 0, .ref 60])) (h' := (xS b, M, L, xP b)) rfl (show (xS b, xm_up M 60 5 (nI (xsk T t (xsk T t (xrp T t (xsp T t (xq T t (K0 + 1)) S0) 5)))), L, xP b) = (xS b, M, L, xP b) from ?_) ?_
  · rw [xsk_id, xup_me m3]
  refine xw_go xb_134 3 (f1 := (141, [.ref 60, .int (nI (xgC T t)), .int (nI (K0 + 1)), .int (nI (S0 + 1)), .float 0], [])) (h1 := (xS b, xm_up M 60 6 0, L, xP b)) rfl ⟨rfl, (Or.inl rfl), trivial⟩ ?_
  refine xw_at (f' := (141, [.ref 60, .int (nI (xgC T t)), .int (nI (K0 + 1)), .int (nI (S0 + 1)), .float 0], [])) (h' := (xS b, M, L, xP b)) rfl (show (xS b, xm_up M 60 6 0, L, xP b) = (xS b, M, L, xP b) from ?_) ?_
  · rw [xup_me g6]
  refine xw_go xb_134 5 (f1 := (150, [.ref 60, .int (nI (xgC T t)), .int (nI (K0 + 1)), .int (nI (S0 + 1)), .float 0], [.int ((xm_up M 60 4 0) 60 6)])) (h1 := (xS b, xm_up M 60 4 0, L, xP b)) rfl ⟨rfl, rfl, trivial⟩ ?_
  refine xw_cong (l' := [.ref 60, .int (nI (xgC T t)), .int (nI (K0 + 1)), .int (nI (S0 + 1)), .float 0]) (st' := [.int 0]) (h' := (xS b, xm_up M 60 4 0, L, xP b)) rfl (show ([.int ((xm_up M 60 4 0) 60 6)] : List Value) = [.int 0] from ?_) rfl ?_
  · rw [xm_up_ne (Or.inr (by decide)), g6]
  refine xw_go xb_134 4 (f1 := (164, [.ref 60, .int (nI (xgC T t)), .int (nI (K0 + 1)), .int (nI (S0 + 1)), .float 0], [.int (nI (xgC T t)), .int (nI (K0 + 1)), .ref 60])) (h1 := (xS b, xm_up M 60 4 0, L, xP b)) rfl trivial ?_
  refine xw_call xb_134 rfl rfl rfl rfl rfl (Or.inr ⟨_, _, rfl, rfl⟩) (m_freshLawn2 (I := (xm_up M 60 4 0)) (N := N) (fun k hk => by rw [xm_up_o (by decide), m1 61 (by decide) (by decide), e1 61 (by decide) (by decide), xm_up_o (by decide), xm_up_o (by decide)]; exact hM.1 k hk) (r := K0 + 1) (c := xgC T t) rfl rfl) ?_
  rintro _ _ ⟨rfl, I2, rfl, g1, g2, g3, g4, g5⟩
  refine xw_at (f' := (167, [.ref 60, .int (nI (xgC T t)), .int (nI (K0 + 1)), .int (nI (S0 + 1)), .float 0], [])) (h' := (xS b, I2, L, xP b)) rfl rfl ?_
  refine xw_go xb_134 2 (f1 := (170, [.ref 60, .int (nI (xgC T t)), .int (nI (K0 + 1)), .int (nI (S0 + 1)), .int 0], [])) (h1 := (xS b, I2, L, xP b)) rfl trivial ?_
  refine xw_cong (l' := [.ref 60, .int (nI (xgC T t)), .int (nI (K0 + 1)), .int (nI (S0 + 1)), .int (nI 0)]) (st' := []) (h' := (xS b, I2, L, xP b)) (show ([.ref 60, .int (nI (xgC T t)), .int (nI (K0 + 1)), .int (nI (S0 + 1)), .int 0] : List Value) = [.ref 60, .int (nI (xgC T t)), .int (nI (K0 + 1)), .int (nI (S0 + 1)), .int (nI 0)] from ?_) rfl rfl ?_
  · rfl
  refine xw_loopP ((K0 + 1) * xgC T t) (fun i => (170, [.ref 60, .int (nI (xgC T t)), .int (nI (K0 + 1)), .int (nI (S0 + 1)), .int (nI i)], [])) (fun i h => ∃ P, h = (xS b, P, L, xP b) ∧ (∀ k, k < 159 → P 61 k = nI (if 31 ≤ k ∧ k < 31 + i then xgS T t (k - 31) else xnw N (K0 + 1) (xgC T t) k)) ∧ ∀ q, q ≠ 61 → P q = I2 q) (fun i h hi hV ih => ?_) (fun h hV => ?_) 0 _ (Nat.zero_le _) ⟨I2, rfl, fun k hk => by rw [if_neg (by omega)]; exact g1 k hk, fun _ _ => rfl⟩
  · obtain ⟨P, rfl, p1, p2⟩ := hV
    refine xw_go xb_134 2 (f1 := (173, [.ref 60, .int (nI (xgC T t)), .int (nI (K0 + 1)), .int (nI (S0 + 1)), .int (nI i)], [.ref 60, .int (nI i)])) (h1 := (xS b, P, L, xP b)) rfl trivial ?_
    refine xw_call xb_134 rfl rfl rfl rfl rfl (Or.inr ⟨_, _, rfl, rfl⟩) (m_cells2 (I := P) (R := K0 + 1) (C := xgC T t) (by rw [p1 0 (by decide), if_neg (by omega)]; rfl) (by rw [p1 1 (by decide), if_neg (by omega)]; rfl)) ?_
    rintro _ _ ⟨rfl, rfl⟩
    refine xw_at (f' := (176, [.ref 60, .int (nI (xgC T t)), .int (nI (K0 + 1)), .int (nI (S0 + 1)), .int (nI i)], [.int (nI ((K0 + 1) * xgC T t)), .int (nI i)])) (h' := (xS b, P, L, xP b)) rfl rfl ?_
    refine xw_go xb_134 1 (f1 := (if (nI ((K0 + 1) * xgC T t)) ≤ (nI i) then 202 else 179, [.ref 60, .int (nI (xgC T t)), .int (nI (K0 + 1)), .int (nI (S0 + 1)), .int (nI i)], [])) (h1 := (xS b, P, L, xP b)) rfl trivial ?_
    refine xw_if (fun c_176 => ?_) (fun c_176 => ?_)
    · skip
      exfalso
      rw [nI_leI (by omega) (by omega)] at c_176
      omega
    · skip
      refine xw_go xb_134 5 (f1 := (188, [.ref 60, .int (nI (xgC T t)), .int (nI (K0 + 1)), .int (nI (S0 + 1)), .int (nI i)], [.int (31 + (nI i)), .ref 61])) (h1 := (xS b, P, L, xP b)) rfl ⟨rfl, trivial⟩ ?_
      refine xw_cong (l' := [.ref 60, .int (nI (xgC T t)), .int (nI (K0 + 1)), .int (nI (S0 + 1)), .int (nI i)]) (st' := [.int (nI (31 + i)), .ref 61]) (h' := (xS b, P, L, xP b)) rfl (show ([.int (31 + (nI i)), .ref 61] : List Value) = [.int (nI (31 + i)), .ref 61] from ?_) rfl ?_
      · rw [xl_31, nI_add]
      refine xw_go xb_134 4 (f1 := (195, [.ref 60, .int (nI (xgC T t)), .int (nI (K0 + 1)), .int (nI (S0 + 1)), .int (nI i)], [.int (P 65 (nI i).toNatClampNeg), .int (nI (31 + i)), .ref 61])) (h1 := (xS b, P, L, xP b)) rfl ⟨rfl, (xn_ar (n := i) (N := 64) rfl (by omega) (by decide)), trivial⟩ ?_
      refine xw_cong (l' := [.ref 60, .int (nI (xgC T t)), .int (nI (K0 + 1)), .int (nI (S0 + 1)), .int (nI i)]) (st' := [.int (nI (xgS T t i)), .int (nI (31 + i)), .ref 61]) (h' := (xS b, P, L, xP b)) rfl (show ([.int (P 65 (nI i).toNatClampNeg), .int (nI (31 + i)), .ref 61] : List Value) = [.int (nI (xgS T t i)), .int (nI (31 + i)), .ref 61] from ?_) rfl ?_
      · rw [xn_cl (by omega), p2 65 (by decide), g4, xm_up_o (by decide), m1 65 (by decide) (by decide), e4 i hi]
      refine xw_go xb_134 1 (f1 := (196, [.ref 60, .int (nI (xgC T t)), .int (nI (K0 + 1)), .int (nI (S0 + 1)), .int (nI i)], [])) (h1 := (xS b, xm_up P 61 (nI (31 + i)).toNatClampNeg (nI (xgS T t i)), L, xP b)) rfl ⟨(xn_ar (n := 31 + i) (N := 159) rfl (by omega) (by decide)), trivial⟩ ?_
      refine xw_at (f' := (196, [.ref 60, .int (nI (xgC T t)), .int (nI (K0 + 1)), .int (nI (S0 + 1)), .int (nI i)], [])) (h' := (xS b, xm_up P 61 (31 + i) (nI (xgS T t i)), L, xP b)) rfl (show (xS b, xm_up P 61 (nI (31 + i)).toNatClampNeg (nI (xgS T t i)), L, xP b) = (xS b, xm_up P 61 (31 + i) (nI (xgS T t i)), L, xP b) from ?_) ?_
      · rw [xn_cl (by omega)]
      refine xw_go xb_134 1 (f1 := (199, [.ref 60, .int (nI (xgC T t)), .int (nI (K0 + 1)), .int (nI (S0 + 1)), .int ((nI i) + 1)], [])) (h1 := (xS b, xm_up P 61 (31 + i) (nI (xgS T t i)), L, xP b)) rfl trivial ?_
      refine xw_cong (l' := [.ref 60, .int (nI (xgC T t)), .int (nI (K0 + 1)), .int (nI (S0 + 1)), .int (nI (i + 1))]) (st' := []) (h' := (xS b, xm_up P 61 (31 + i) (nI (xgS T t i)), L, xP b)) (show ([.ref 60, .int (nI (xgC T t)), .int (nI (K0 + 1)), .int (nI (S0 + 1)), .int ((nI i) + 1)] : List Value) = [.ref 60, .int (nI (xgC T t)), .int (nI (K0 + 1)), .int (nI (S0 + 1)), .int (nI (i + 1))] from ?_) rfl rfl ?_
      · rw [nI_1]
      refine xw_go xb_134 1 (f1 := (170, [.ref 60, .int (nI (xgC T t)), .int (nI (K0 + 1)), .int (nI (S0 + 1)), .int (nI (i + 1))], [])) (h1 := (xS b, xm_up P 61 (31 + i) (nI (xgS T t i)), L, xP b)) rfl trivial ?_
      refine ih _ ⟨_, rfl, fun k hk => ?_, fun q h1 => by rw [xm_up_o h1]; exact p2 q h1⟩
      by_cases e : k = 31 + i
      · subst e
        rw [xm_up_at, if_pos (by omega), show 31 + i - 31 = i by omega]
      · rw [xm_up_ne (Or.inr e), p1 k hk]
        by_cases q : 31 ≤ k ∧ k < 31 + i
        · rw [if_pos q, if_pos (by omega)]
        · rw [if_neg q, if_neg (by omega)]
  · obtain ⟨P, rfl, p1, p2⟩ := hV
    refine xw_go xb_134 2 (f1 := (173, [.ref 60, .int (nI (xgC T t)), .int (nI (K0 + 1)), .int (nI (S0 + 1)), .int (nI ((K0 + 1) * xgC T t))], [.ref 60, .int (nI ((K0 + 1) * xgC T t))])) (h1 := (xS b, P, L, xP b)) rfl trivial ?_
    refine xw_call xb_134 rfl rfl rfl rfl rfl (Or.inr ⟨_, _, rfl, rfl⟩) (m_cells2 (I := P) (R := K0 + 1) (C := xgC T t) (by rw [p1 0 (by decide), if_neg (by omega)]; rfl) (by rw [p1 1 (by decide), if_neg (by omega)]; rfl)) ?_
    rintro _ _ ⟨rfl, rfl⟩
    refine xw_at (f' := (176, [.ref 60, .int (nI (xgC T t)), .int (nI (K0 + 1)), .int (nI (S0 + 1)), .int (nI ((K0 + 1) * xgC T t))], [.int (nI ((K0 + 1) * xgC T t)), .int (nI ((K0 + 1) * xgC T t))])) (h' := (xS b, P, L, xP b)) rfl rfl ?_
    refine xw_go xb_134 1 (f1 := (if (nI ((K0 + 1) * xgC T t)) ≤ (nI ((K0 + 1) * xgC T t)) then 202 else 179, [.ref 60, .int (nI (xgC T t)), .int (nI (K0 + 1)), .int (nI (S0 + 1)), .int (nI ((K0 + 1) * xgC T t))], [])) (h1 := (xS b, P, L, xP b)) rfl trivial ?_
    refine xw_if (fun c_176 => ?_) (fun c_176 => ?_)
    · skip
      refine xw_go xb_134 2 (f1 := (205, [.ref 60, .int (nI (xgC T t)), .int (nI (K0 + 1)), .int (nI (S0 + 1)), .int 0], [])) (h1 := (xS b, P, L, xP b)) rfl trivial ?_
      refine xw_cong (l' := [.ref 60, .int (nI (xgC T t)), .int (nI (K0 + 1)), .int (nI (S0 + 1)), .int (nI 0)]) (st' := []) (h' := (xS b, P, L, xP b)) (show ([.ref 60, .int (nI (xgC T t)), .int (nI (K0 + 1)), .int (nI (S0 + 1)), .int 0] : List Value) = [.ref 60, .int (nI (xgC T t)), .int (nI (K0 + 1)), .int (nI (S0 + 1)), .int (nI 0)] from ?_) rfl rfl ?_
      · rfl
      refine xw_loopP (S0 + 1) (fun i => (205, [.ref 60, .int (nI (xgC T t)), .int (nI (K0 + 1)), .int (nI (S0 + 1)), .int (nI i)], [])) (fun i h => ∃ Z, h = (xS b, Z, L, xP b) ∧ xMN (xga (xgs N (K0 + 1) (xgC T t) (xgS T t)) (xzd T t (xgC T t) (xq T t (K0 + 1))) i) Z ∧ Z 60 10 = 0 ∧ xMF I2 Z ∧ Z 66 = I2 66) (fun i h hi hV ih => ?_) (fun h hV => ?_) 0 _ (Nat.zero_le _) ⟨P, rfl, p1, by rw [p2 60 (by decide)]; exact g2, ⟨fun q hq => p2 q (by omega), fun k hk => by rw [p2 60 (by decide)]⟩, p2 66 (by decide)⟩
      · obtain ⟨Z, rfl, z1, z2, z3, z4⟩ := hV
        have e2 : xga (xgs N (K0 + 1) (xgC T t) (xgS T t)) (xzd T t (xgC T t) (xq T t (K0 + 1))) i 2 = i := by rw [xga_2, xgs_lo (by decide)]; show 0 + i = i; omega
        refine xw_go xb_134 3 (f1 := (if (nI (S0 + 1)) ≤ (nI i) then 263 else 211, [.ref 60, .int (nI (xgC T t)), .int (nI (K0 + 1)), .int (nI (S0 + 1)), .int (nI i)], [])) (h1 := (xS b, Z, L, xP b)) rfl trivial ?_
        refine xw_if (fun c_208 => ?_) (fun c_208 => ?_)
        · skip
          exfalso
          rw [nI_leI (by omega) (by omega)] at c_208
          omega
        · skip
          refine xw_go xb_134 6 (f1 := (220, [.ref 60, .int (nI (xgC T t)), .int (nI (K0 + 1)), .int (nI (S0 + 1)), .int (nI i)], [.int (4 * (nI i)), .ref 66, .ref 60])) (h1 := (xS b, Z, L, xP b)) rfl ⟨rfl, trivial⟩ ?_
          refine xw_cong (l' := [.ref 60, .int (nI (xgC T t)), .int (nI (K0 + 1)), .int (nI (S0 + 1)), .int (nI i)]) (st' := [.int (nI (4 * i + 0)), .ref 66, .ref 60]) (h' := (xS b, Z, L, xP b)) rfl (show ([.int (4 * (nI i)), .ref 66, .ref 60] : List Value) = [.int (nI (4 * i + 0)), .ref 66, .ref 60] from ?_) rfl ?_
          · rw [xl_4, pk_mul, Nat.add_zero]
          refine xw_go xb_134 1 (f1 := (221, [.ref 60, .int (nI (xgC T t)), .int (nI (K0 + 1)), .int (nI (S0 + 1)), .int (nI i)], [.int (Z 66 (nI (4 * i + 0)).toNatClampNeg), .ref 60])) (h1 := (xS b, Z, L, xP b)) rfl ⟨(xn_ar (n := 4 * i + 0) (N := 20) rfl (by omega) (by decide)), trivial⟩ ?_
          refine xw_cong (l' := [.ref 60, .int (nI (xgC T t)), .int (nI (K0 + 1)), .int (nI (S0 + 1)), .int (nI i)]) (st' := [.int (nI ((xzd T t (xgC T t) (xq T t (K0 + 1))) i 0)), .ref 60]) (h' := (xS b, Z, L, xP b)) rfl (show ([.int (Z 66 (nI (4 * i + 0)).toNatClampNeg), .ref 60] : List Value) = [.int (nI ((xzd T t (xgC T t) (xq T t (K0 + 1))) i 0)), .ref 60] from ?_) rfl ?_
          · rw [xn_cl (by omega), z4, g5, xm_up_o (by decide), m4 i hi 0 (by decide)]
          refine xw_go xb_134 7 (f1 := (231, [.ref 60, .int (nI (xgC T t)), .int (nI (K0 + 1)), .int (nI (S0 + 1)), .int (nI i)], [.int ((4 * (nI i)) + 1), .ref 66, .int (nI ((xzd T t (xgC T t) (xq T t (K0 + 1))) i 0)), .ref 60])) (h1 := (xS b, Z, L, xP b)) rfl ⟨rfl, trivial⟩ ?_
          refine xw_cong (l' := [.ref 60, .int (nI (xgC T t)), .int (nI (K0 + 1)), .int (nI (S0 + 1)), .int (nI i)]) (st' := [.int (nI (4 * i + 1)), .ref 66, .int (nI ((xzd T t (xgC T t) (xq T t (K0 + 1))) i 0)), .ref 60]) (h' := (xS b, Z, L, xP b)) rfl (show ([.int ((4 * (nI i)) + 1), .ref 66, .int (nI ((xzd T t (xgC T t) (xq T t (K0 + 1))) i 0)), .ref 60] : List Value) = [.int (nI (4 * i + 1)), .ref 66, .int (nI ((xzd T t (xgC T t) (xq T t (K0 + 1))) i 0)), .ref 60] from ?_) rfl ?_
          · rw [xl_4, pk_mul, xl_1, nI_add]
          refine xw_go xb_134 1 (f1 := (232, [.ref 60, .int (nI (xgC T t)), .int (nI (K0 + 1)), .int (nI (S0 + 1)), .int (nI i)], [.int (Z 66 (nI (4 * i + 1)).toNatClampNeg), .int (nI ((xzd T t (xgC T t) (xq T t (K0 + 1))) i 0)), .ref 60])) (h1 := (xS b, Z, L, xP b)) rfl ⟨(xn_ar (n := 4 * i + 1) (N := 20) rfl (by omega) (by decide)), trivial⟩ ?_
          refine xw_cong (l' := [.ref 60, .int (nI (xgC T t)), .int (nI (K0 + 1)), .int (nI (S0 + 1)), .int (nI i)]) (st' := [.int (nI ((xzd T t (xgC T t) (xq T t (K0 + 1))) i 1)), .int (nI ((xzd T t (xgC T t) (xq T t (K0 + 1))) i 0)), .ref 60]) (h' := (xS b, Z, L, xP b)) rfl (show ([.int (Z 66 (nI (4 * i + 1)).toNatClampNeg), .int (nI ((xzd T t (xgC T t) (xq T t (K0 + 1))) i 0)), .ref 60] : List Value) = [.int (nI ((xzd T t (xgC T t) (xq T t (K0 + 1))) i 1)), .int (nI ((xzd T t (xgC T t) (xq T t (K0 + 1))) i 0)), .ref 60] from ?_) rfl ?_
          · rw [xn_cl (by omega), z4, g5, xm_up_o (by decide), m4 i hi 1 (by decide)]
          refine xw_go xb_134 7 (f1 := (242, [.ref 60, .int (nI (xgC T t)), .int (nI (K0 + 1)), .int (nI (S0 + 1)), .int (nI i)], [.int ((4 * (nI i)) + 2), .ref 66, .int (nI ((xzd T t (xgC T t) (xq T t (K0 + 1))) i 1)), .int (nI ((xzd T t (xgC T t) (xq T t (K0 + 1))) i 0)), .ref 60])) (h1 := (xS b, Z, L, xP b)) rfl ⟨rfl, trivial⟩ ?_
          refine xw_cong (l' := [.ref 60, .int (nI (xgC T t)), .int (nI (K0 + 1)), .int (nI (S0 + 1)), .int (nI i)]) (st' := [.int (nI (4 * i + 2)), .ref 66, .int (nI ((xzd T t (xgC T t) (xq T t (K0 + 1))) i 1)), .int (nI ((xzd T t (xgC T t) (xq T t (K0 + 1))) i 0)), .ref 60]) (h' := (xS b, Z, L, xP b)) rfl (show ([.int ((4 * (nI i)) + 2), .ref 66, .int (nI ((xzd T t (xgC T t) (xq T t (K0 + 1))) i 1)), .int (nI ((xzd T t (xgC T t) (xq T t (K0 + 1))) i 0)), .ref 60] : List Value) = [.int (nI (4 * i + 2)), .ref 66, .int (nI ((xzd T t (xgC T t) (xq T t (K0 + 1))) i 1)), .int (nI ((xzd T t (xgC T t) (xq T t (K0 + 1))) i 0)), .ref 60] from ?_) rfl ?_
          · rw [xl_4, pk_mul, xl_2, nI_add]
          refine xw_go xb_134 1 (f1 := (243, [.ref 60, .int (nI (xgC T t)), .int (nI (K0 + 1)), .int (nI (S0 + 1)), .int (nI i)], [.int (Z 66 (nI (4 * i + 2)).toNatClampNeg), .int (nI ((xzd T t (xgC T t) (xq T t (K0 + 1))) i 1)), .int (nI ((xzd T t (xgC T t) (xq T t (K0 + 1))) i 0)), .ref 60])) (h1 := (xS b, Z, L, xP b)) rfl ⟨(xn_ar (n := 4 * i + 2) (N := 20) rfl (by omega) (by decide)), trivial⟩ ?_
          refine xw_cong (l' := [.ref 60, .int (nI (xgC T t)), .int (nI (K0 + 1)), .int (nI (S0 + 1)), .int (nI i)]) (st' := [.int (nI ((xzd T t (xgC T t) (xq T t (K0 + 1))) i 2)), .int (nI ((xzd T t (xgC T t) (xq T t (K0 + 1))) i 1)), .int (nI ((xzd T t (xgC T t) (xq T t (K0 + 1))) i 0)), .ref 60]) (h' := (xS b, Z, L, xP b)) rfl (show ([.int (Z 66 (nI (4 * i + 2)).toNatClampNeg), .int (nI ((xzd T t (xgC T t) (xq T t (K0 + 1))) i 1)), .int (nI ((xzd T t (xgC T t) (xq T t (K0 + 1))) i 0)), .ref 60] : List Value) = [.int (nI ((xzd T t (xgC T t) (xq T t (K0 + 1))) i 2)), .int (nI ((xzd T t (xgC T t) (xq T t (K0 + 1))) i 1)), .int (nI ((xzd T t (xgC T t) (xq T t (K0 + 1))) i 0)), .ref 60] from ?_) rfl ?_
          · rw [xn_cl (by omega), z4, g5, xm_up_o (by decide), m4 i hi 2 (by decide)]
          refine xw_go xb_134 7 (f1 := (253, [.ref 60, .int (nI (xgC T t)), .int (nI (K0 + 1)), .int (nI (S0 + 1)), .int (nI i)], [.int ((4 * (nI i)) + 3), .ref 66, .int (nI ((xzd T t (xgC T t) (xq T t (K0 + 1))) i 2)), .int (nI ((xzd T t (xgC T t) (xq T t (K0 + 1))) i 1)), .int (nI ((xzd T t (xgC T t) (xq T t (K0 + 1))) i 0)), .ref 60])) (h1 := (xS b, Z, L, xP b)) rfl ⟨rfl, trivial⟩ ?_
          refine xw_cong (l' := [.ref 60, .int (nI (xgC T t)), .int (nI (K0 + 1)), .int (nI (S0 + 1)), .int (nI i)]) (st' := [.int (nI (4 * i + 3)), .ref 66, .int (nI ((xzd T t (xgC T t) (xq T t (K0 + 1))) i 2)), .int (nI ((xzd T t (xgC T t) (xq T t (K0 + 1))) i 1)), .int (nI ((xzd T t (xgC T t) (xq T t (K0 + 1))) i 0)), .ref 60]) (h' := (xS b, Z, L, xP b)) rfl (show ([.int ((4 * (nI i)) + 3), .ref 66, .int (nI ((xzd T t (xgC T t) (xq T t (K0 + 1))) i 2)), .int (nI ((xzd T t (xgC T t) (xq T t (K0 + 1))) i 1)), .int (nI ((xzd T t (xgC T t) (xq T t (K0 + 1))) i 0)), .ref 60] : List Value) = [.int (nI (4 * i + 3)), .ref 66, .int (nI ((xzd T t (xgC T t) (xq T t (K0 + 1))) i 2)), .int (nI ((xzd T t (xgC T t) (xq T t (K0 + 1))) i 1)), .int (nI ((xzd T t (xgC T t) (xq T t (K0 + 1))) i 0)), .ref 60] from ?_) rfl ?_
          · rw [xl_4, pk_mul, xl_3, nI_add]
          refine xw_go xb_134 1 (f1 := (254, [.ref 60, .int (nI (xgC T t)), .int (nI (K0 + 1)), .int (nI (S0 + 1)), .int (nI i)], [.int (Z 66 (nI (4 * i + 3)).toNatClampNeg), .int (nI ((xzd T t (xgC T t) (xq T t (K0 + 1))) i 2)), .int (nI ((xzd T t (xgC T t) (xq T t (K0 + 1))) i 1)), .int (nI ((xzd T t (xgC T t) (xq T t (K0 + 1))) i 0)), .ref 60])) (h1 := (xS b, Z, L, xP b)) rfl ⟨(xn_ar (n := 4 * i + 3) (N := 20) rfl (by omega) (by decide)), trivial⟩ ?_
          refine xw_cong (l' := [.ref 60, .int (nI (xgC T t)), .int (nI (K0 + 1)), .int (nI (S0 + 1)), .int (nI i)]) (st' := [.int (nI ((xzd T t (xgC T t) (xq T t (K0 + 1))) i 3)), .int (nI ((xzd T t (xgC T t) (xq T t (K0 + 1))) i 2)), .int (nI ((xzd T t (xgC T t) (xq T t (K0 + 1))) i 1)), .int (nI ((xzd T t (xgC T t) (xq T t (K0 + 1))) i 0)), .ref 60]) (h' := (xS b, Z, L, xP b)) rfl (show ([.int (Z 66 (nI (4 * i + 3)).toNatClampNeg), .int (nI ((xzd T t (xgC T t) (xq T t (K0 + 1))) i 2)), .int (nI ((xzd T t (xgC T t) (xq T t (K0 + 1))) i 1)), .int (nI ((xzd T t (xgC T t) (xq T t (K0 + 1))) i 0)), .ref 60] : List Value) = [.int (nI ((xzd T t (xgC T t) (xq T t (K0 + 1))) i 3)), .int (nI ((xzd T t (xgC T t) (xq T t (K0 + 1))) i 2)), .int (nI ((xzd T t (xgC T t) (xq T t (K0 + 1))) i 1)), .int (nI ((xzd T t (xgC T t) (xq T t (K0 + 1))) i 0)), .ref 60] from ?_) rfl ?_
          · rw [xn_cl (by omega), z4, g5, xm_up_o (by decide), m4 i hi 3 (by decide)]
          refine xw_call xb_134 rfl rfl rfl rfl rfl (Or.inr ⟨_, _, rfl, rfl⟩) (m_comes2 (I := Z) z1 (by rw [e2]; omega) rfl rfl rfl rfl) ?_
          rintro _ _ ⟨rfl, Z2, rfl, w1, w2, w3, w4, w5⟩
          refine xw_at (f' := (257, [.ref 60, .int (nI (xgC T t)), .int (nI (K0 + 1)), .int (nI (S0 + 1)), .int (nI i)], [])) (h' := (xS b, Z2, L, xP b)) rfl rfl ?_
          refine xw_go xb_134 1 (f1 := (260, [.ref 60, .int (nI (xgC T t)), .int (nI (K0 + 1)), .int (nI (S0 + 1)), .int ((nI i) + 1)], [])) (h1 := (xS b, Z2, L, xP b)) rfl trivial ?_
          refine xw_cong (l' := [.ref 60, .int (nI (xgC T t)), .int (nI (K0 + 1)), .int (nI (S0 + 1)), .int (nI (i + 1))]) (st' := []) (h' := (xS b, Z2, L, xP b)) (show ([.ref 60, .int (nI (xgC T t)), .int (nI (K0 + 1)), .int (nI (S0 + 1)), .int ((nI i) + 1)] : List Value) = [.ref 60, .int (nI (xgC T t)), .int (nI (K0 + 1)), .int (nI (S0 + 1)), .int (nI (i + 1))] from ?_) rfl rfl ?_
          · rw [nI_1]
          refine xw_go xb_134 1 (f1 := (205, [.ref 60, .int (nI (xgC T t)), .int (nI (K0 + 1)), .int (nI (S0 + 1)), .int (nI (i + 1))], [])) (h1 := (xS b, Z2, L, xP b)) rfl trivial ?_
          refine ih _ ⟨Z2, rfl, w1, w2, xMF_t z3 w3, by rw [w5, z4]⟩
      · obtain ⟨Z, rfl, z1, z2, z3, z4⟩ := hV
        refine xw_go xb_134 3 (f1 := (if (nI (S0 + 1)) ≤ (nI (S0 + 1)) then 263 else 211, [.ref 60, .int (nI (xgC T t)), .int (nI (K0 + 1)), .int (nI (S0 + 1)), .int (nI (S0 + 1))], [])) (h1 := (xS b, Z, L, xP b)) rfl trivial ?_
        refine xw_if (fun c_208 => ?_) (fun c_208 => ?_)
        · skip
          refine xw_go xb_134 1 (f1 := (264, [.ref 60, .int (nI (xgC T t)), .int (nI (K0 + 1)), .int (nI (S0 + 1)), .int (nI (S0 + 1))], [.ref 60])) (h1 := (xS b, Z, L, xP b)) rfl trivial ?_
          refine xw_call xb_134 rfl rfl rfl rfl rfl (Or.inr ⟨_, _, rfl, rfl⟩) (m_cells2 (I := Z) (R := K0 + 1) (C := xgC T t) (by rw [z1 0 (by decide), xga_k (by decide) (by decide), xgs_lo (by decide)]; rfl) (by rw [z1 1 (by decide), xga_k (by decide) (by decide), xgs_lo (by decide)]; rfl)) ?_
          rintro _ _ ⟨rfl, rfl⟩
          refine xw_at (f' := (267, [.ref 60, .int (nI (xgC T t)), .int (nI (K0 + 1)), .int (nI (S0 + 1)), .int (nI (S0 + 1))], [.int (nI ((K0 + 1) * xgC T t))])) (h' := (xS b, Z, L, xP b)) rfl rfl ?_
          refine xw_ret xb_134 rfl rfl trivial ?_
          refine ⟨rfl, Z, rfl, ⟨z1, z2, fun j hj => absurd hj (Nat.not_lt_zero j)⟩, fun q hq => ?_, ?_, fun k h1 h2 h3 h4 => ?_⟩
          · rw [z3.1 q hq, g3.1 q hq, xm_up_o (by omega), m1 q (by omega) (by omega), e1 q (by omega) (by omega), xm_up_o (by omega), xm_up_o (by omega)]
          · rw [z3.2 4 (by decide), g3.2 4 (by decide), xm_up_at]
          · rw [z3.2 k h4, g3.2 k h4, xm_up_ne (Or.inr h1), m2 k h2, e2 k h2, xm_up_ne (Or.inr h3), xm_up_ne (Or.inr h2)]
        · skip
          exfalso
          rw [nI_leI (by omega) (by omega)] at c_208
          omega
    · skip
      exfalso
      rw [nI_leI (by omega) (by omega)] at c_176
      omega

