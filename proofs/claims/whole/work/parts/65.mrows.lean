/-! ===== garden of the model ===== -/
theorem m_sprs0 {d : Nat} {b : Bool} {I : Nat → Nat → Int32} {L : Nat → Nat → Int64} {x1 x2 : Int32} (h6 : I 60 6 = 1) : xm_Z (d + 1) 139 [.ref 60, .int x1, .int x2] (xS b, I, L, xP b) (fun rz hz => rz = some (.int 0) ∧ hz = (xS b, I, L, xP b)) := by
  refine xw_S xb_139 (l := [.ref 60, .int x1, .int x2, .float 0, .float 0, .float 0, .float 0, .float 0, .float 0, .float 0]) (Nat.le_of_ble_eq_true rfl) rfl ?_
  refine xw_go xb_139 4 (f1 := (6, [.ref 60, .int x1, .int x2, .int 0, .float 0, .float 0, .float 0, .float 0, .float 0, .float 0], [.int (I 60 6)])) (h1 := (xS b, I, L, xP b)) rfl ⟨rfl, trivial⟩ ?_
  refine xw_cong (l' := [.ref 60, .int x1, .int x2, .int 0, .float 0, .float 0, .float 0, .float 0, .float 0, .float 0]) (st' := [.int 1]) (h' := (xS b, I, L, xP b)) rfl (show ([.int (I 60 6)] : List Value) = [.int 1] from ?_) rfl ?_
  · rw [h6]
  refine xw_go xb_139 2 (f1 := (231, [.ref 60, .int x1, .int x2, .int 0, .float 0, .float 0, .float 0, .float 0, .float 0, .float 0], [.int 0])) (h1 := (xS b, I, L, xP b)) rfl trivial ?_
  refine xw_ret xb_139 rfl rfl trivial ?_
  exact ⟨rfl, rfl⟩

theorem m_gf118 {d : Nat} {b : Bool} {J : Nat → Nat → Int32} {L : Nat → Nat → Int64} {F : Nat} {v1 v2 : Int32} (h6 : J 60 6 = 1) (h5 : J 60 5 = nI F) : xm_W (d + 3) 134 (118, [.ref 60, .int v1, .int v2, .float 0, .float 0], []) (xS b, J, L, xP b) (fun rz hz => rz = some (.int (-20 - nI F)) ∧ hz = (xS b, xm_up J 60 4 0, L, xP b)) := by
  refine xw_go xb_134 3 (f1 := (123, [.ref 60, .int v1, .int v2, .float 0, .float 0], [.int (J 60 6), .ref 60])) (h1 := (xS b, J, L, xP b)) rfl ⟨rfl, trivial⟩ ?_
  refine xw_cong (l' := [.ref 60, .int v1, .int v2, .float 0, .float 0]) (st' := [.int 1, .ref 60]) (h' := (xS b, J, L, xP b)) rfl (show ([.int (J 60 6), .ref 60] : List Value) = [.int 1, .ref 60] from ?_) rfl ?_
  · rw [h6]
  refine xw_go xb_134 4 (f1 := (141, [.ref 60, .int v1, .int v2, .float 0, .float 0], [])) (h1 := (xS b, xm_up J 60 6 1, L, xP b)) rfl ⟨rfl, (Or.inr rfl), trivial⟩ ?_
  refine xw_at (f' := (141, [.ref 60, .int v1, .int v2, .float 0, .float 0], [])) (h' := (xS b, J, L, xP b)) rfl (show (xS b, xm_up J 60 6 1, L, xP b) = (xS b, J, L, xP b) from ?_) ?_
  · rw [xup_me h6]
  refine xw_go xb_134 5 (f1 := (150, [.ref 60, .int v1, .int v2, .float 0, .float 0], [.int ((xm_up J 60 4 0) 60 6)])) (h1 := (xS b, xm_up J 60 4 0, L, xP b)) rfl ⟨rfl, rfl, trivial⟩ ?_
  refine xw_cong (l' := [.ref 60, .int v1, .int v2, .float 0, .float 0]) (st' := [.int 1]) (h' := (xS b, xm_up J 60 4 0, L, xP b)) rfl (show ([.int ((xm_up J 60 4 0) 60 6)] : List Value) = [.int 1] from ?_) rfl ?_
  · rw [xm_up_ne (Or.inr (by decide)), h6]
  refine xw_go xb_134 4 (f1 := (159, [.ref 60, .int v1, .int v2, .float 0, .float 0], [.int ((xm_up J 60 4 0) 60 5), .int (-20)])) (h1 := (xS b, xm_up J 60 4 0, L, xP b)) rfl ⟨rfl, trivial⟩ ?_
  refine xw_cong (l' := [.ref 60, .int v1, .int v2, .float 0, .float 0]) (st' := [.int (nI F), .int (-20)]) (h' := (xS b, xm_up J 60 4 0, L, xP b)) rfl (show ([.int ((xm_up J 60 4 0) 60 5), .int (-20)] : List Value) = [.int (nI F), .int (-20)] from ?_) rfl ?_
  · rw [xm_up_ne (Or.inr (by decide)), h5]
  refine xw_go xb_134 1 (f1 := (160, [.ref 60, .int v1, .int v2, .float 0, .float 0], [.int ((-20) - (nI F))])) (h1 := (xS b, xm_up J 60 4 0, L, xP b)) rfl trivial ?_
  refine xw_ret xb_134 rfl rfl trivial ?_
  exact ⟨rfl, rfl⟩
theorem m_gf111 {d : Nat} {b : Bool} {J : Nat → Nat → Int32} {L : Nat → Nat → Int64} {F : Nat} {v1 v2 : Int32} (h6 : J 60 6 = 1) (h5 : J 60 5 = nI F) : xm_W (d + 3) 134 (111, [.ref 60, .int v1, .int v2, .float 0, .float 0], []) (xS b, J, L, xP b) (fun rz hz => rz = some (.int (-20 - nI F)) ∧ hz = (xS b, xm_up J 60 4 0, L, xP b)) := by
  refine xw_go xb_134 3 (f1 := (114, [.ref 60, .int v1, .int v2, .float 0, .float 0], [.int v1, .int v2, .ref 60])) (h1 := (xS b, J, L, xP b)) rfl trivial ?_
  refine xw_call xb_134 rfl rfl rfl rfl rfl (Or.inr ⟨_, _, rfl, rfl⟩) (m_sprs0 (I := J) h6) ?_
  rintro _ _ ⟨rfl, rfl⟩
  refine xw_at (f' := (117, [.ref 60, .int v1, .int v2, .float 0, .float 0], [.int 0])) (h' := (xS b, J, L, xP b)) rfl rfl ?_
  refine xw_go xb_134 1 (f1 := (118, [.ref 60, .int v1, .int v2, .int 0, .float 0], [])) (h1 := (xS b, J, L, xP b)) rfl trivial ?_
  refine xw_fg (l0 := [.ref 60, .int v1, .int v2, .float 0, .float 0]) ⟨Or.inr rfl, Or.inr rfl, Or.inr rfl, Or.inl rfl, Or.inr rfl, trivial⟩ ?_
  exact m_gf118 h6 h5
theorem m_gf19 {d : Nat} {b : Bool} {J : Nat → Nat → Int32} {L : Nat → Nat → Int64} {F : Nat} {v1 v2 : Int32} (h6 : J 60 6 = 1) (h5 : J 60 5 = nI F) : xm_W (d + 3) 134 (19, [.ref 60, .int v1, .int v2, .float 0, .float 0], []) (xS b, J, L, xP b) (fun rz hz => rz = some (.int (-20 - nI F)) ∧ hz = (xS b, xm_up J 60 4 0, L, xP b)) := by
  refine xw_go xb_134 2 (f1 := (23, [.ref 60, .int v1, .int v2, .float 0, .float 0], [.int (J 60 6)])) (h1 := (xS b, J, L, xP b)) rfl ⟨rfl, trivial⟩ ?_
  refine xw_cong (l' := [.ref 60, .int v1, .int v2, .float 0, .float 0]) (st' := [.int 1]) (h' := (xS b, J, L, xP b)) rfl (show ([.int (J 60 6)] : List Value) = [.int 1] from ?_) rfl ?_
  · rw [h6]
  refine xw_go xb_134 4 (f1 := (91, [.ref 60, .int v1, .int v2, .float 0, .float 0], [.int (J 60 6), .ref 60])) (h1 := (xS b, J, L, xP b)) rfl ⟨rfl, trivial⟩ ?_
  refine xw_cong (l' := [.ref 60, .int v1, .int v2, .float 0, .float 0]) (st' := [.int 1, .ref 60]) (h' := (xS b, J, L, xP b)) rfl (show ([.int (J 60 6), .ref 60] : List Value) = [.int 1, .ref 60] from ?_) rfl ?_
  · rw [h6]
  refine xw_go xb_134 2 (f1 := (108, [.ref 60, .int v1, .int v2, .float 0, .float 0], [.int 0, .ref 60])) (h1 := (xS b, J, L, xP b)) rfl trivial ?_
  refine xw_call xb_134 rfl rfl rfl rfl rfl (Or.inr ⟨_, _, rfl, rfl⟩) (m_mustF (I := J) h6 h5) ?_
  rintro _ _ ⟨rfl, rfl⟩
  refine xw_at (f' := (111, [.ref 60, .int v1, .int v2, .float 0, .float 0], [])) (h' := (xS b, J, L, xP b)) rfl rfl ?_
  exact m_gf111 h6 h5
theorem m_g40t {d : Nat} {b : Bool} {J : Nat → Nat → Int32} {L : Nat → Nat → Int64} {Q : Option Value → xm_H → Prop} {T : Nat → Nat} {t : Nat} (hR : xMR T t J) {k a : Nat} (h6 : J 60 6 = 0) (h5 : J 60 5 = nI a) (ha : a ≤ t) (hk : k ≤ 7) (he : xsk T t a = xsk T t (xrp T t (xq T t k) (xgC T t))) (hg : xgc T t k) (kk : xm_W (d + 3) 134 (71, [.ref 60, .int (nI (xgC T t)), .int (nI (k + 1)), .float 0, .float 0], []) (xS b, xm_up J 60 5 (nI (xq T t (k + 1))), L, xP b) Q) : xm_W (d + 3) 134 (40, [.ref 60, .int (nI (xgC T t)), .int (nI (k + 1)), .float 0, .float 0], []) (xS b, J, L, xP b) Q := by
  obtain ⟨g1, g2, g3, g4⟩ := hg
  have l126 : xlt T t (xrp T t (xq T t k) (xgC T t)) ≤ 126 := xlt_le hR.2.1
  refine xw_go xb_134 2 (f1 := (42, [.ref 60, .int (nI (xgC T t)), .int (nI (k + 1)), .float 0, .float 0], [.ref 60, .ref 60])) (h1 := (xS b, J, L, xP b)) rfl trivial ?_
  refine xw_call xb_134 rfl rfl rfl rfl rfl (Or.inr ⟨_, _, rfl, rfl⟩) (m_here (I := J) (a := a) hR h5 ha) ?_
  rintro _ _ ⟨rfl, rfl⟩
  refine xw_at (f' := (45, [.ref 60, .int (nI (xgC T t)), .int (nI (k + 1)), .float 0, .float 0], [.int (nI (xlt T t a)), .ref 60])) (h' := (xS b, xm_up J 60 5 (nI (xsk T t a)), L, xP b)) rfl rfl ?_
  refine xw_cong (l' := [.ref 60, .int (nI (xgC T t)), .int (nI (k + 1)), .float 0, .float 0]) (st' := [.int (nI (xlt T t (xrp T t (xq T t k) (xgC T t)))), .ref 60]) (h' := (xS b, xm_up J 60 5 (nI (xsk T t a)), L, xP b)) rfl (show ([.int (nI (xlt T t a)), .ref 60] : List Value) = [.int (nI (xlt T t (xrp T t (xq T t k) (xgC T t)))), .ref 60] from ?_) rfl ?_
  · rw [xlt_c he]
  refine xw_go xb_134 2 (f1 := (if ¬ (nI (xlt T t (xrp T t (xq T t k) (xgC T t)))) = 47 then 60 else 50, [.ref 60, .int (nI (xgC T t)), .int (nI (k + 1)), .float 0, .float 0], [.ref 60])) (h1 := (xS b, xm_up J 60 5 (nI (xsk T t a)), L, xP b)) rfl trivial ?_
  refine xw_if (fun c_47 => ?_) (fun c_47 => ?_)
  · skip
    exfalso
    first | (rw [xl_47, nI_eq (by omega) (by omega)] at c_47; exact c_47 g3) | (rw [xl_8, nI_leI (by omega) (by omega)] at c_53; omega)
  · skip
    refine xw_go xb_134 3 (f1 := (if 8 ≤ (nI (k + 1)) then 60 else 56, [.ref 60, .int (nI (xgC T t)), .int (nI (k + 1)), .float 0, .float 0], [.ref 60])) (h1 := (xS b, xm_up J 60 5 (nI (xsk T t a)), L, xP b)) rfl trivial ?_
    refine xw_if (fun c_53 => ?_) (fun c_53 => ?_)
    · skip
      exfalso
      first | (rw [xl_47, nI_eq (by omega) (by omega)] at c_47; exact c_47 g3) | (rw [xl_8, nI_leI (by omega) (by omega)] at c_53; omega)
    · skip
      refine xw_go xb_134 2 (f1 := (61, [.ref 60, .int (nI (xgC T t)), .int (nI (k + 1)), .float 0, .float 0], [.int 1, .ref 60])) (h1 := (xS b, xm_up J 60 5 (nI (xsk T t a)), L, xP b)) rfl trivial ?_
      refine xw_call xb_134 rfl rfl rfl rfl rfl (Or.inr ⟨_, _, rfl, rfl⟩) (m_must1 (I := (xm_up J 60 5 (nI (xsk T t a)))) (a := xsk T t a) (by rw [xm_up_ne (Or.inr (by decide))]; exact h6) (xm_up_at _ _ _ _) rfl) ?_
      rintro _ _ ⟨rfl, rfl⟩
      refine xw_at (f' := (64, [.ref 60, .int (nI (xgC T t)), .int (nI (k + 1)), .float 0, .float 0], [])) (h' := (xS b, xm_up (xm_up J 60 5 (nI (xsk T t a))) 60 5 (nI (xsk T t a + 1)), L, xP b)) rfl rfl ?_
      refine xw_at (f' := (64, [.ref 60, .int (nI (xgC T t)), .int (nI (k + 1)), .float 0, .float 0], [])) (h' := (xS b, xm_up J 60 5 (nI (xq T t (k + 1))), L, xP b)) rfl (show (xS b, xm_up (xm_up J 60 5 (nI (xsk T t a))) 60 5 (nI (xsk T t a + 1)), L, xP b) = (xS b, xm_up J 60 5 (nI (xq T t (k + 1))), L, xP b) from ?_) ?_
      · rw [xup_2, he]
        rfl
      refine xw_go xb_134 2 (f1 := (68, [.ref 60, .int (nI (xgC T t)), .int (nI (k + 1)), .float 0, .float 0], [.int ((xm_up J 60 5 (nI (xq T t (k + 1)))) 60 6)])) (h1 := (xS b, xm_up J 60 5 (nI (xq T t (k + 1))), L, xP b)) rfl ⟨rfl, trivial⟩ ?_
      refine xw_cong (l' := [.ref 60, .int (nI (xgC T t)), .int (nI (k + 1)), .float 0, .float 0]) (st' := [.int 0]) (h' := (xS b, xm_up J 60 5 (nI (xq T t (k + 1))), L, xP b)) rfl (show ([.int ((xm_up J 60 5 (nI (xq T t (k + 1)))) 60 6)] : List Value) = [.int 0] from ?_) rfl ?_
      · rw [xm_up_ne (Or.inr (by decide)), h6]
      refine xw_go xb_134 1 (f1 := (71, [.ref 60, .int (nI (xgC T t)), .int (nI (k + 1)), .float 0, .float 0], [])) (h1 := (xS b, xm_up J 60 5 (nI (xq T t (k + 1))), L, xP b)) rfl trivial ?_
      exact kk
theorem m_g40f {d : Nat} {b : Bool} {J : Nat → Nat → Int32} {L : Nat → Nat → Int64} {T : Nat → Nat} {t : Nat} (hR : xMR T t J) {k a : Nat} (h6 : J 60 6 = 0) (h5 : J 60 5 = nI a) (ha : a ≤ t) (hk : k ≤ 7) (he : xsk T t a = xsk T t (xrp T t (xq T t k) (xgC T t))) (hg : ¬ (xlt T t (xrp T t (xq T t k) (xgC T t)) = 47 ∧ k < 7)) : xm_W (d + 3) 134 (40, [.ref 60, .int (nI (xgC T t)), .int (nI (k + 1)), .float 0, .float 0], []) (xS b, J, L, xP b) (fun rz hz => rz = some (.int (-20 - nI (xsk T t a))) ∧ hz = (xS b, xm_up (xm_up (xm_up J 60 5 (nI (xsk T t a))) 60 6 1) 60 4 0, L, xP b)) := by
  have l126 : xlt T t (xrp T t (xq T t k) (xgC T t)) ≤ 126 := xlt_le hR.2.1
  refine xw_go xb_134 2 (f1 := (42, [.ref 60, .int (nI (xgC T t)), .int (nI (k + 1)), .float 0, .float 0], [.ref 60, .ref 60])) (h1 := (xS b, J, L, xP b)) rfl trivial ?_
  refine xw_call xb_134 rfl rfl rfl rfl rfl (Or.inr ⟨_, _, rfl, rfl⟩) (m_here (I := J) (a := a) hR h5 ha) ?_
  rintro _ _ ⟨rfl, rfl⟩
  refine xw_at (f' := (45, [.ref 60, .int (nI (xgC T t)), .int (nI (k + 1)), .float 0, .float 0], [.int (nI (xlt T t a)), .ref 60])) (h' := (xS b, xm_up J 60 5 (nI (xsk T t a)), L, xP b)) rfl rfl ?_
  refine xw_cong (l' := [.ref 60, .int (nI (xgC T t)), .int (nI (k + 1)), .float 0, .float 0]) (st' := [.int (nI (xlt T t (xrp T t (xq T t k) (xgC T t)))), .ref 60]) (h' := (xS b, xm_up J 60 5 (nI (xsk T t a)), L, xP b)) rfl (show ([.int (nI (xlt T t a)), .ref 60] : List Value) = [.int (nI (xlt T t (xrp T t (xq T t k) (xgC T t)))), .ref 60] from ?_) rfl ?_
  · rw [xlt_c he]
  refine xw_go xb_134 2 (f1 := (if ¬ (nI (xlt T t (xrp T t (xq T t k) (xgC T t)))) = 47 then 60 else 50, [.ref 60, .int (nI (xgC T t)), .int (nI (k + 1)), .float 0, .float 0], [.ref 60])) (h1 := (xS b, xm_up J 60 5 (nI (xsk T t a)), L, xP b)) rfl trivial ?_
  refine xw_if (fun c_47 => ?_) (fun c_47 => ?_)
  · skip
    refine xw_go xb_134 1 (f1 := (61, [.ref 60, .int (nI (xgC T t)), .int (nI (k + 1)), .float 0, .float 0], [.int 0, .ref 60])) (h1 := (xS b, xm_up J 60 5 (nI (xsk T t a)), L, xP b)) rfl trivial ?_
    refine xw_call xb_134 rfl rfl rfl rfl rfl (Or.inr ⟨_, _, rfl, rfl⟩) (m_must0 (I := (xm_up J 60 5 (nI (xsk T t a)))) (a := xsk T t a) (by rw [xm_up_ne (Or.inr (by decide))]; exact h6) (xm_up_at _ _ _ _) rfl) ?_
    rintro _ _ ⟨rfl, rfl⟩
    refine xw_at (f' := (64, [.ref 60, .int (nI (xgC T t)), .int (nI (k + 1)), .float 0, .float 0], [])) (h' := (xS b, xm_up (xm_up J 60 5 (nI (xsk T t a))) 60 6 1, L, xP b)) rfl rfl ?_
    refine xw_go xb_134 2 (f1 := (68, [.ref 60, .int (nI (xgC T t)), .int (nI (k + 1)), .float 0, .float 0], [.int ((xm_up (xm_up J 60 5 (nI (xsk T t a))) 60 6 1) 60 6)])) (h1 := (xS b, xm_up (xm_up J 60 5 (nI (xsk T t a))) 60 6 1, L, xP b)) rfl ⟨rfl, trivial⟩ ?_
    refine xw_cong (l' := [.ref 60, .int (nI (xgC T t)), .int (nI (k + 1)), .float 0, .float 0]) (st' := [.int 1]) (h' := (xS b, xm_up (xm_up J 60 5 (nI (xsk T t a))) 60 6 1, L, xP b)) rfl (show ([.int ((xm_up (xm_up J 60 5 (nI (xsk T t a))) 60 6 1) 60 6)] : List Value) = [.int 1] from ?_) rfl ?_
    · rw [xm_up_at]
    refine xw_go xb_134 1 (f1 := (19, [.ref 60, .int (nI (xgC T t)), .int (nI (k + 1)), .float 0, .float 0], [])) (h1 := (xS b, xm_up (xm_up J 60 5 (nI (xsk T t a))) 60 6 1, L, xP b)) rfl trivial ?_
    exact m_gf19 (J := xm_up (xm_up J 60 5 (nI (xsk T t a))) 60 6 1) (F := xsk T t a) (xm_up_at _ _ _ _) (by rw [xm_up_ne (Or.inr (by decide)), xm_up_at])
  · skip
    refine xw_go xb_134 3 (f1 := (if 8 ≤ (nI (k + 1)) then 60 else 56, [.ref 60, .int (nI (xgC T t)), .int (nI (k + 1)), .float 0, .float 0], [.ref 60])) (h1 := (xS b, xm_up J 60 5 (nI (xsk T t a)), L, xP b)) rfl trivial ?_
    refine xw_if (fun c_53 => ?_) (fun c_53 => ?_)
    · skip
      refine xw_go xb_134 1 (f1 := (61, [.ref 60, .int (nI (xgC T t)), .int (nI (k + 1)), .float 0, .float 0], [.int 0, .ref 60])) (h1 := (xS b, xm_up J 60 5 (nI (xsk T t a)), L, xP b)) rfl trivial ?_
      refine xw_call xb_134 rfl rfl rfl rfl rfl (Or.inr ⟨_, _, rfl, rfl⟩) (m_must0 (I := (xm_up J 60 5 (nI (xsk T t a)))) (a := xsk T t a) (by rw [xm_up_ne (Or.inr (by decide))]; exact h6) (xm_up_at _ _ _ _) rfl) ?_
      rintro _ _ ⟨rfl, rfl⟩
      refine xw_at (f' := (64, [.ref 60, .int (nI (xgC T t)), .int (nI (k + 1)), .float 0, .float 0], [])) (h' := (xS b, xm_up (xm_up J 60 5 (nI (xsk T t a))) 60 6 1, L, xP b)) rfl rfl ?_
      refine xw_go xb_134 2 (f1 := (68, [.ref 60, .int (nI (xgC T t)), .int (nI (k + 1)), .float 0, .float 0], [.int ((xm_up (xm_up J 60 5 (nI (xsk T t a))) 60 6 1) 60 6)])) (h1 := (xS b, xm_up (xm_up J 60 5 (nI (xsk T t a))) 60 6 1, L, xP b)) rfl ⟨rfl, trivial⟩ ?_
      refine xw_cong (l' := [.ref 60, .int (nI (xgC T t)), .int (nI (k + 1)), .float 0, .float 0]) (st' := [.int 1]) (h' := (xS b, xm_up (xm_up J 60 5 (nI (xsk T t a))) 60 6 1, L, xP b)) rfl (show ([.int ((xm_up (xm_up J 60 5 (nI (xsk T t a))) 60 6 1) 60 6)] : List Value) = [.int 1] from ?_) rfl ?_
      · rw [xm_up_at]
      refine xw_go xb_134 1 (f1 := (19, [.ref 60, .int (nI (xgC T t)), .int (nI (k + 1)), .float 0, .float 0], [])) (h1 := (xS b, xm_up (xm_up J 60 5 (nI (xsk T t a))) 60 6 1, L, xP b)) rfl trivial ?_
      exact m_gf19 (J := xm_up (xm_up J 60 5 (nI (xsk T t a))) 60 6 1) (F := xsk T t a) (xm_up_at _ _ _ _) (by rw [xm_up_ne (Or.inr (by decide)), xm_up_at])
    · skip
      exfalso
      rw [Classical.not_not, xl_47, nI_eq (by omega) (by omega)] at c_47
      rw [xl_8, nI_leI (by omega) (by omega)] at c_53
      exact hg ⟨c_47, by omega⟩
theorem m_g19t {d : Nat} {b : Bool} {J : Nat → Nat → Int32} {L : Nat → Nat → Int64} {Q : Option Value → xm_H → Prop} {T : Nat → Nat} {t : Nat} (hR : xMR T t J) {k a : Nat} (h6 : J 60 6 = 0) (h5 : J 60 5 = nI a) (ha : a ≤ t) (hk : k ≤ 7) (he : xsk T t a = xsk T t (xrp T t (xq T t k) (xgC T t))) (hg : k = 0 ∨ xlt T t (xrp T t (xq T t k) (xgC T t)) = 47) (kk : ∀ K a, (∀ q, q ≠ 60 → K q = J q) → (∀ j, j ≠ 5 → K 60 j = J 60 j) → K 60 5 = nI a → a ≤ t → xsk T t a = xsk T t (xrp T t (xq T t k) (xgC T t)) → xm_W (d + 3) 134 (40, [.ref 60, .int (nI (xgC T t)), .int (nI (k + 1)), .float 0, .float 0], []) (xS b, K, L, xP b) Q) : xm_W (d + 3) 134 (19, [.ref 60, .int (nI (xgC T t)), .int (nI (k + 1)), .float 0, .float 0], []) (xS b, J, L, xP b) Q := by
  have l126 : xlt T t (xrp T t (xq T t k) (xgC T t)) ≤ 126 := xlt_le hR.2.1
  refine xw_go xb_134 2 (f1 := (23, [.ref 60, .int (nI (xgC T t)), .int (nI (k + 1)), .float 0, .float 0], [.int (J 60 6)])) (h1 := (xS b, J, L, xP b)) rfl ⟨rfl, trivial⟩ ?_
  refine xw_cong (l' := [.ref 60, .int (nI (xgC T t)), .int (nI (k + 1)), .float 0, .float 0]) (st' := [.int 0]) (h' := (xS b, J, L, xP b)) rfl (show ([.int (J 60 6)] : List Value) = [.int 0] from ?_) rfl ?_
  · rw [h6]
  refine xw_go xb_134 4 (f1 := (if (nI (k + 1)) < 2 then 40 else 31, [.ref 60, .int (nI (xgC T t)), .int (nI (k + 1)), .float 0, .float 0], [])) (h1 := (xS b, J, L, xP b)) rfl trivial ?_
  refine xw_if (fun c_28 => ?_) (fun c_28 => ?_)
  · skip
    exact kk J a (fun _ _ => rfl) (fun _ _ => rfl) h5 ha he
  · skip
    refine xw_go xb_134 1 (f1 := (32, [.ref 60, .int (nI (xgC T t)), .int (nI (k + 1)), .float 0, .float 0], [.ref 60])) (h1 := (xS b, J, L, xP b)) rfl trivial ?_
    refine xw_call xb_134 rfl rfl rfl rfl rfl (Or.inr ⟨_, _, rfl, rfl⟩) (m_here (I := J) (a := a) hR h5 ha) ?_
    rintro _ _ ⟨rfl, rfl⟩
    refine xw_at (f' := (35, [.ref 60, .int (nI (xgC T t)), .int (nI (k + 1)), .float 0, .float 0], [.int (nI (xlt T t a))])) (h' := (xS b, xm_up J 60 5 (nI (xsk T t a)), L, xP b)) rfl rfl ?_
    refine xw_cong (l' := [.ref 60, .int (nI (xgC T t)), .int (nI (k + 1)), .float 0, .float 0]) (st' := [.int (nI (xlt T t (xrp T t (xq T t k) (xgC T t))))]) (h' := (xS b, xm_up J 60 5 (nI (xsk T t a)), L, xP b)) rfl (show ([.int (nI (xlt T t a))] : List Value) = [.int (nI (xlt T t (xrp T t (xq T t k) (xgC T t))))] from ?_) rfl ?_
    · rw [xlt_c he]
    refine xw_go xb_134 2 (f1 := (if ¬ (nI (xlt T t (xrp T t (xq T t k) (xgC T t)))) = 47 then 86 else 40, [.ref 60, .int (nI (xgC T t)), .int (nI (k + 1)), .float 0, .float 0], [])) (h1 := (xS b, xm_up J 60 5 (nI (xsk T t a)), L, xP b)) rfl trivial ?_
    refine xw_if (fun c_37 => ?_) (fun c_37 => ?_)
    · skip
      exfalso
      rw [xl_2, nI_ltI (by omega) (by omega)] at c_28
      rw [xl_47, nI_eq (by omega) (by omega)] at c_37
      rcases hg with q | q
      · omega
      · exact c_37 q
    · skip
      exact kk _ (xsk T t a) (fun q h1 => xm_up_o h1) (fun j h1 => xm_up_ne (Or.inr h1)) (xm_up_at _ _ _ _) (xsk_le ha) (by rw [xsk_id]; exact he)
theorem m_g19f {d : Nat} {b : Bool} {J : Nat → Nat → Int32} {L : Nat → Nat → Int64} {Q : Option Value → xm_H → Prop} {T : Nat → Nat} {t : Nat} (hR : xMR T t J) {k a : Nat} (h6 : J 60 6 = 0) (h5 : J 60 5 = nI a) (ha : a ≤ t) (hk : k ≤ 7) (he : xsk T t a = xsk T t (xrp T t (xq T t k) (xgC T t))) (hg : 1 ≤ k ∧ xlt T t (xrp T t (xq T t k) (xgC T t)) ≠ 47) (kk : xm_W (d + 3) 134 (86, [.ref 60, .int (nI (xgC T t)), .int (nI (k + 1)), .float 0, .float 0], []) (xS b, xm_up J 60 5 (nI (xsk T t a)), L, xP b) Q) : xm_W (d + 3) 134 (19, [.ref 60, .int (nI (xgC T t)), .int (nI (k + 1)), .float 0, .float 0], []) (xS b, J, L, xP b) Q := by
  have l126 : xlt T t (xrp T t (xq T t k) (xgC T t)) ≤ 126 := xlt_le hR.2.1
  refine xw_go xb_134 2 (f1 := (23, [.ref 60, .int (nI (xgC T t)), .int (nI (k + 1)), .float 0, .float 0], [.int (J 60 6)])) (h1 := (xS b, J, L, xP b)) rfl ⟨rfl, trivial⟩ ?_
  refine xw_cong (l' := [.ref 60, .int (nI (xgC T t)), .int (nI (k + 1)), .float 0, .float 0]) (st' := [.int 0]) (h' := (xS b, J, L, xP b)) rfl (show ([.int (J 60 6)] : List Value) = [.int 0] from ?_) rfl ?_
  · rw [h6]
  refine xw_go xb_134 4 (f1 := (if (nI (k + 1)) < 2 then 40 else 31, [.ref 60, .int (nI (xgC T t)), .int (nI (k + 1)), .float 0, .float 0], [])) (h1 := (xS b, J, L, xP b)) rfl trivial ?_
  refine xw_if (fun c_28 => ?_) (fun c_28 => ?_)
  · skip
    exfalso
    first | (rw [Classical.not_not, xl_47, nI_eq (by omega) (by omega)] at c_37; exact hg.2 c_37) | (rw [xl_2, nI_ltI (by omega) (by omega)] at c_28; omega)
  · skip
    refine xw_go xb_134 1 (f1 := (32, [.ref 60, .int (nI (xgC T t)), .int (nI (k + 1)), .float 0, .float 0], [.ref 60])) (h1 := (xS b, J, L, xP b)) rfl trivial ?_
    refine xw_call xb_134 rfl rfl rfl rfl rfl (Or.inr ⟨_, _, rfl, rfl⟩) (m_here (I := J) (a := a) hR h5 ha) ?_
    rintro _ _ ⟨rfl, rfl⟩
    refine xw_at (f' := (35, [.ref 60, .int (nI (xgC T t)), .int (nI (k + 1)), .float 0, .float 0], [.int (nI (xlt T t a))])) (h' := (xS b, xm_up J 60 5 (nI (xsk T t a)), L, xP b)) rfl rfl ?_
    refine xw_cong (l' := [.ref 60, .int (nI (xgC T t)), .int (nI (k + 1)), .float 0, .float 0]) (st' := [.int (nI (xlt T t (xrp T t (xq T t k) (xgC T t))))]) (h' := (xS b, xm_up J 60 5 (nI (xsk T t a)), L, xP b)) rfl (show ([.int (nI (xlt T t a))] : List Value) = [.int (nI (xlt T t (xrp T t (xq T t k) (xgC T t))))] from ?_) rfl ?_
    · rw [xlt_c he]
    refine xw_go xb_134 2 (f1 := (if ¬ (nI (xlt T t (xrp T t (xq T t k) (xgC T t)))) = 47 then 86 else 40, [.ref 60, .int (nI (xgC T t)), .int (nI (k + 1)), .float 0, .float 0], [])) (h1 := (xS b, xm_up J 60 5 (nI (xsk T t a)), L, xP b)) rfl trivial ?_
    refine xw_if (fun c_37 => ?_) (fun c_37 => ?_)
    · skip
      exact kk
    · skip
      exfalso
      first | (rw [Classical.not_not, xl_47, nI_eq (by omega) (by omega)] at c_37; exact hg.2 c_37) | (rw [xl_2, nI_ltI (by omega) (by omega)] at c_28; omega)
theorem m_g86t {d : Nat} {b : Bool} {J : Nat → Nat → Int32} {L : Nat → Nat → Int64} {Q : Option Value → xm_H → Prop} {T : Nat → Nat} {t : Nat} (hR : xMR T t J) {k a : Nat} (h6 : J 60 6 = 0) (h5 : J 60 5 = nI a) (ha : a ≤ t) (hk : k ≤ 7) (he : xsk T t a = xsk T t (xrp T t (xq T t k) (xgC T t))) (hg : xlt T t (xrp T t (xq T t k) (xgC T t)) = 59) (kk : xm_W (d + 3) 134 (111, [.ref 60, .int (nI (xgC T t)), .int (nI (k + 1)), .float 0, .float 0], []) (xS b, xm_up J 60 5 (nI (xq T t (k + 1))), L, xP b) Q) : xm_W (d + 3) 134 (86, [.ref 60, .int (nI (xgC T t)), .int (nI (k + 1)), .float 0, .float 0], []) (xS b, J, L, xP b) Q := by
  have l126 : xlt T t (xrp T t (xq T t k) (xgC T t)) ≤ 126 := xlt_le hR.2.1
  refine xw_go xb_134 3 (f1 := (91, [.ref 60, .int (nI (xgC T t)), .int (nI (k + 1)), .float 0, .float 0], [.int (J 60 6), .ref 60])) (h1 := (xS b, J, L, xP b)) rfl ⟨rfl, trivial⟩ ?_
  refine xw_cong (l' := [.ref 60, .int (nI (xgC T t)), .int (nI (k + 1)), .float 0, .float 0]) (st' := [.int 0, .ref 60]) (h' := (xS b, J, L, xP b)) rfl (show ([.int (J 60 6), .ref 60] : List Value) = [.int 0, .ref 60] from ?_) rfl ?_
  · rw [h6]
  refine xw_go xb_134 2 (f1 := (95, [.ref 60, .int (nI (xgC T t)), .int (nI (k + 1)), .float 0, .float 0], [.ref 60, .ref 60])) (h1 := (xS b, J, L, xP b)) rfl trivial ?_
  refine xw_call xb_134 rfl rfl rfl rfl rfl (Or.inr ⟨_, _, rfl, rfl⟩) (m_here (I := J) (a := a) hR h5 ha) ?_
  rintro _ _ ⟨rfl, rfl⟩
  refine xw_at (f' := (98, [.ref 60, .int (nI (xgC T t)), .int (nI (k + 1)), .float 0, .float 0], [.int (nI (xlt T t a)), .ref 60])) (h' := (xS b, xm_up J 60 5 (nI (xsk T t a)), L, xP b)) rfl rfl ?_
  refine xw_cong (l' := [.ref 60, .int (nI (xgC T t)), .int (nI (k + 1)), .float 0, .float 0]) (st' := [.int (nI (xlt T t (xrp T t (xq T t k) (xgC T t)))), .ref 60]) (h' := (xS b, xm_up J 60 5 (nI (xsk T t a)), L, xP b)) rfl (show ([.int (nI (xlt T t a)), .ref 60] : List Value) = [.int (nI (xlt T t (xrp T t (xq T t k) (xgC T t)))), .ref 60] from ?_) rfl ?_
  · rw [xlt_c he]
  refine xw_go xb_134 2 (f1 := (if ¬ (nI (xlt T t (xrp T t (xq T t k) (xgC T t)))) = 59 then 107 else 103, [.ref 60, .int (nI (xgC T t)), .int (nI (k + 1)), .float 0, .float 0], [.ref 60])) (h1 := (xS b, xm_up J 60 5 (nI (xsk T t a)), L, xP b)) rfl trivial ?_
  refine xw_if (fun c_100 => ?_) (fun c_100 => ?_)
  · skip
    exfalso
    rw [xl_59, nI_eq (by omega) (by omega)] at c_100
    exact c_100 hg
  · skip
    refine xw_go xb_134 2 (f1 := (108, [.ref 60, .int (nI (xgC T t)), .int (nI (k + 1)), .float 0, .float 0], [.int 1, .ref 60])) (h1 := (xS b, xm_up J 60 5 (nI (xsk T t a)), L, xP b)) rfl trivial ?_
    refine xw_call xb_134 rfl rfl rfl rfl rfl (Or.inr ⟨_, _, rfl, rfl⟩) (m_must1 (I := (xm_up J 60 5 (nI (xsk T t a)))) (a := xsk T t a) (by rw [xm_up_ne (Or.inr (by decide))]; exact h6) (xm_up_at _ _ _ _) rfl) ?_
    rintro _ _ ⟨rfl, rfl⟩
    refine xw_at (f' := (111, [.ref 60, .int (nI (xgC T t)), .int (nI (k + 1)), .float 0, .float 0], [])) (h' := (xS b, xm_up (xm_up J 60 5 (nI (xsk T t a))) 60 5 (nI (xsk T t a + 1)), L, xP b)) rfl rfl ?_
    refine xw_at (f' := (111, [.ref 60, .int (nI (xgC T t)), .int (nI (k + 1)), .float 0, .float 0], [])) (h' := (xS b, xm_up J 60 5 (nI (xq T t (k + 1))), L, xP b)) rfl (show (xS b, xm_up (xm_up J 60 5 (nI (xsk T t a))) 60 5 (nI (xsk T t a + 1)), L, xP b) = (xS b, xm_up J 60 5 (nI (xq T t (k + 1))), L, xP b) from ?_) ?_
    · rw [xup_2, he]
      rfl
    exact kk
theorem m_g86f {d : Nat} {b : Bool} {J : Nat → Nat → Int32} {L : Nat → Nat → Int64} {T : Nat → Nat} {t : Nat} (hR : xMR T t J) {k a : Nat} (h6 : J 60 6 = 0) (h5 : J 60 5 = nI a) (ha : a ≤ t) (hk : k ≤ 7) (he : xsk T t a = xsk T t (xrp T t (xq T t k) (xgC T t))) (hg : xlt T t (xrp T t (xq T t k) (xgC T t)) ≠ 59) : xm_W (d + 3) 134 (86, [.ref 60, .int (nI (xgC T t)), .int (nI (k + 1)), .float 0, .float 0], []) (xS b, J, L, xP b) (fun rz hz => rz = some (.int (-20 - nI (xsk T t a))) ∧ hz = (xS b, xm_up (xm_up (xm_up J 60 5 (nI (xsk T t a))) 60 6 1) 60 4 0, L, xP b)) := by
  have l126 : xlt T t (xrp T t (xq T t k) (xgC T t)) ≤ 126 := xlt_le hR.2.1
  refine xw_go xb_134 3 (f1 := (91, [.ref 60, .int (nI (xgC T t)), .int (nI (k + 1)), .float 0, .float 0], [.int (J 60 6), .ref 60])) (h1 := (xS b, J, L, xP b)) rfl ⟨rfl, trivial⟩ ?_
  refine xw_cong (l' := [.ref 60, .int (nI (xgC T t)), .int (nI (k + 1)), .float 0, .float 0]) (st' := [.int 0, .ref 60]) (h' := (xS b, J, L, xP b)) rfl (show ([.int (J 60 6), .ref 60] : List Value) = [.int 0, .ref 60] from ?_) rfl ?_
  · rw [h6]
  refine xw_go xb_134 2 (f1 := (95, [.ref 60, .int (nI (xgC T t)), .int (nI (k + 1)), .float 0, .float 0], [.ref 60, .ref 60])) (h1 := (xS b, J, L, xP b)) rfl trivial ?_
  refine xw_call xb_134 rfl rfl rfl rfl rfl (Or.inr ⟨_, _, rfl, rfl⟩) (m_here (I := J) (a := a) hR h5 ha) ?_
  rintro _ _ ⟨rfl, rfl⟩
  refine xw_at (f' := (98, [.ref 60, .int (nI (xgC T t)), .int (nI (k + 1)), .float 0, .float 0], [.int (nI (xlt T t a)), .ref 60])) (h' := (xS b, xm_up J 60 5 (nI (xsk T t a)), L, xP b)) rfl rfl ?_
  refine xw_cong (l' := [.ref 60, .int (nI (xgC T t)), .int (nI (k + 1)), .float 0, .float 0]) (st' := [.int (nI (xlt T t (xrp T t (xq T t k) (xgC T t)))), .ref 60]) (h' := (xS b, xm_up J 60 5 (nI (xsk T t a)), L, xP b)) rfl (show ([.int (nI (xlt T t a)), .ref 60] : List Value) = [.int (nI (xlt T t (xrp T t (xq T t k) (xgC T t)))), .ref 60] from ?_) rfl ?_
  · rw [xlt_c he]
  refine xw_go xb_134 2 (f1 := (if ¬ (nI (xlt T t (xrp T t (xq T t k) (xgC T t)))) = 59 then 107 else 103, [.ref 60, .int (nI (xgC T t)), .int (nI (k + 1)), .float 0, .float 0], [.ref 60])) (h1 := (xS b, xm_up J 60 5 (nI (xsk T t a)), L, xP b)) rfl trivial ?_
  refine xw_if (fun c_100 => ?_) (fun c_100 => ?_)
  · skip
    refine xw_go xb_134 1 (f1 := (108, [.ref 60, .int (nI (xgC T t)), .int (nI (k + 1)), .float 0, .float 0], [.int 0, .ref 60])) (h1 := (xS b, xm_up J 60 5 (nI (xsk T t a)), L, xP b)) rfl trivial ?_
    refine xw_call xb_134 rfl rfl rfl rfl rfl (Or.inr ⟨_, _, rfl, rfl⟩) (m_must0 (I := (xm_up J 60 5 (nI (xsk T t a)))) (a := xsk T t a) (by rw [xm_up_ne (Or.inr (by decide))]; exact h6) (xm_up_at _ _ _ _) rfl) ?_
    rintro _ _ ⟨rfl, rfl⟩
    refine xw_at (f' := (111, [.ref 60, .int (nI (xgC T t)), .int (nI (k + 1)), .float 0, .float 0], [])) (h' := (xS b, xm_up (xm_up J 60 5 (nI (xsk T t a))) 60 6 1, L, xP b)) rfl rfl ?_
    exact m_gf111 (J := xm_up (xm_up J 60 5 (nI (xsk T t a))) 60 6 1) (F := xsk T t a) (xm_up_at _ _ _ _) (by rw [xm_up_ne (Or.inr (by decide)), xm_up_at])
  · skip
    exfalso
    rw [Classical.not_not, xl_59, nI_eq (by omega) (by omega)] at c_100
    exact hg c_100
/-- the model behind row k -/
def xMK (T : Nat → Nat) (t k : Nat) (I J : Nat → Nat → Int32) : Prop := (∀ q, q ≠ 60 → q ≠ 65 → J q = I q) ∧ (∀ j, j ≠ 5 → J 60 j = I 60 j) ∧ (∃ a, J 60 5 = nI a ∧ a ≤ t ∧ xsk T t a = xsk T t (xrp T t (xq T t k) (xgC T t))) ∧ ∀ i, i < (k + 1) * xgC T t → J 65 i = nI (xgS T t i)
theorem xMK_s {T : Nat → Nat} {t k n : Nat} {J K : Nat → Nat → Int32} (hn : n = xgC T t) (h1 : ∀ j, j < n → K 65 (k * xgC T t + j) = nI (xsc (xlt T t (xrp T t (xq T t k) j)))) (h2 : ∀ j, j < k * xgC T t → K 65 j = J 65 j) (h3 : ∀ j, j < k * xgC T t → J 65 j = nI (xgS T t j)) : ∀ i, i < (k + 1) * xgC T t → K 65 i = nI (xgS T t i) := fun i hi => by
  rw [Nat.succ_mul] at hi
  by_cases q : i < k * xgC T t
  · rw [h2 i q]
    exact h3 i q
  · have h5 := h1 (i - k * xgC T t) (by omega)
    have h4 := xgS_row (T := T) (t := t) (k := k) (j := i - k * xgC T t) (by omega)
    rw [show k * xgC T t + (i - k * xgC T t) = i by omega] at h5 h4
    rw [h5, h4]
theorem m_gRows {d : Nat} {b : Bool} {I : Nat → Nat → Int32} {L : Nat → Nat → Int64} {Q : Option Value → xm_H → Prop} {T : Nat → Nat} {t : Nat} (hR : xMR T t I) (h6 : I 60 6 = 0) {K1 : Nat} (hc : ∀ j, j < K1 → xgc T t j) (hn : xgn T t K1 = xgC T t) (kk : ∀ J, xMK T t K1 I J → xm_W (d + 3) 134 (19, [.ref 60, .int (nI (xgC T t)), .int (nI (K1 + 1)), .float 0, .float 0], []) (xS b, J, L, xP b) Q) {J : Nat → Nat → Int32} (hJ : xMK T t 0 I J) : xm_W (d + 3) 134 (19, [.ref 60, .int (nI (xgC T t)), .int (nI (0 + 1)), .float 0, .float 0], []) (xS b, J, L, xP b) Q := by
  have hnn : ∀ j, j ≤ K1 → xgn T t j = xgC T t := fun j hj => by
    by_cases e : j = K1
    · rw [e]; exact hn
    · exact (hc j (by omega)).2.1
  refine xw_loopP K1 (fun k => (19, [.ref 60, .int (nI (xgC T t)), .int (nI (k + 1)), .float 0, .float 0], [])) (fun k h => ∃ J, h = (xS b, J, L, xP b) ∧ xMK T t k I J) (fun k h hk hV ih => ?_) (fun h hV => ?_) 0 _ (Nat.zero_le _) ⟨J, rfl, hJ⟩
  · obtain ⟨J, rfl, j1, j2, ⟨a, j5, j6, j7⟩, j3⟩ := hV
    have gk := hc k hk
    have hq : ∀ j, j < k + 1 → xgc T t j := fun j hj => hc j (by omega)
    have hn1 := hnn (k + 1) (by omega)
    have c8 := xgC_le (T := T) (t := t)
    have bc : 2 ≤ xgC T t ∧ xgC T t ≤ 8 := ⟨gk.1, c8⟩
    have k56 := xkc56 (T := T) (t := t) (k := k + 1) (by have := gk.2.2.2; omega)
    have z64 : (k + 1) * xgC T t + xgC T t ≤ 64 := by omega
    have ql : xq T t (k + 1) ≤ t := xq_le (k + 1) hq
    refine m_g19t (xMR_fr hR (j2 4 (by decide)) (j1 64 (by decide) (by decide))) (by rw [j2 6 (by decide)]; exact h6) j5 j6 (by have := gk.2.2.2; omega) j7 (Or.inr gk.2.2.1) (fun K a9 k1 k2 k3 k4 k5 => ?_)
    have s1 : xMR T t K := xMR_fr hR (by rw [k2 4 (by decide), j2 4 (by decide)]) (by rw [k1 64 (by decide), j1 64 (by decide) (by decide)])
    have s6 : K 60 6 = 0 := by rw [k2 6 (by decide), j2 6 (by decide)]; exact h6
    refine m_g40t s1 s6 k3 k4 (by have := gk.2.2.2; omega) k5 gk ?_
    refine xw_go xb_134 5 (f1 := (76, [.ref 60, .int (nI (xgC T t)), .int (nI (k + 1)), .float 0, .float 0], [.int (nI (xgC T t)), .int ((nI (xgC T t)) * (nI (k + 1))), .ref 60])) (h1 := (xS b, xm_up K 60 5 (nI (xq T t (k + 1))), L, xP b)) rfl trivial ?_
    refine xw_call xb_134 rfl rfl rfl rfl rfl (Or.inr ⟨_, _, rfl, rfl⟩) (m_row2G (I := (xm_up K 60 5 (nI (xq T t (k + 1))))) (z := (k + 1) * xgC T t) (c := xgC T t) (p := xq T t (k + 1)) (a := xq T t (k + 1)) (n := xgn T t (k + 1)) (xMR_fr s1 (by rw [xm_up_ne (Or.inr (by decide))]) (by rw [xm_up_o (by decide)])) (by rw [xm_up_ne (Or.inr (by decide))]; exact s6) (xm_up_at _ _ _ _) ql rfl ql bc z64 rfl hn1 (by rw [pk_mul, Nat.mul_comm]) rfl) ?_
    rintro _ _ ⟨rfl, M, a8, rfl, m1, m2, m3, m4, m5, m6, m7⟩
    refine xw_at (f' := (79, [.ref 60, .int (nI (xgC T t)), .int (nI (k + 1)), .float 0, .float 0], [.int (nI (xgn T t (k + 1)))])) (h' := (xS b, M, L, xP b)) rfl rfl ?_
    refine xw_go xb_134 2 (f1 := (83, [.ref 60, .int (nI (xgC T t)), .int ((nI (k + 1)) + 1), .float 0, .float 0], [])) (h1 := (xS b, M, L, xP b)) rfl trivial ?_
    refine xw_cong (l' := [.ref 60, .int (nI (xgC T t)), .int (nI (k + 1 + 1)), .float 0, .float 0]) (st' := []) (h' := (xS b, M, L, xP b)) (show ([.ref 60, .int (nI (xgC T t)), .int ((nI (k + 1)) + 1), .float 0, .float 0] : List Value) = [.ref 60, .int (nI (xgC T t)), .int (nI (k + 1 + 1)), .float 0, .float 0] from ?_) rfl rfl ?_
    · rw [nI_1]
    refine xw_go xb_134 1 (f1 := (19, [.ref 60, .int (nI (xgC T t)), .int (nI (k + 1 + 1)), .float 0, .float 0], [])) (h1 := (xS b, M, L, xP b)) rfl trivial ?_
    refine ih _ ⟨M, rfl, fun q h1 h2 => ?_, fun j h1 => ?_, ⟨a8, m3, m5, by rw [hn1] at m4; exact m4⟩, xMK_s hn1 m6 m7 (fun j hj => ?_)⟩
    · rw [m1 q h1 h2, xm_up_o h1, k1 q h1]
      exact j1 q h1 h2
    · rw [m2 j h1, xm_up_ne (Or.inr h1), k2 j h1]
      exact j2 j h1
    · rw [xm_up_o (by decide), k1 65 (by decide)]
      exact j3 j hj
  · obtain ⟨J, rfl, h⟩ := hV
    exact kk J h
theorem m_gRowB {d : Nat} {b : Bool} {I J : Nat → Nat → Int32} {L : Nat → Nat → Int64} {T : Nat → Nat} {t : Nat} (hR : xMR T t I) (h6 : I 60 6 = 0) {k : Nat} (hq : ∀ j, j < k + 1 → xgc T t j) (hn1 : xgn T t (k + 1) < xgC T t) (hJ : xMK T t k I J) : xm_W (d + 3) 134 (19, [.ref 60, .int (nI (xgC T t)), .int (nI (k + 1)), .float 0, .float 0], []) (xS b, J, L, xP b) (fun rz hz => rz = some (.int (-20 - nI (xsk T t (xrp T t (xq T t (k + 1)) (xgn T t (k + 1)))))) ∧ ∃ I', hz = (xS b, I', L, xP b) ∧ (∀ q, q ≠ 60 → q ≠ 65 → I' q = I q) ∧ I' 60 4 = 0 ∧ ∀ j, j ≠ 4 → j ≠ 5 → j ≠ 6 → I' 60 j = I 60 j) := by
  obtain ⟨j1, j2, ⟨a, j5, j6, j7⟩, j3⟩ := hJ
  have gk := hq k (by omega)
  have c8 := xgC_le (T := T) (t := t)
  have bc : 2 ≤ xgC T t ∧ xgC T t ≤ 8 := ⟨gk.1, c8⟩
  have k56 := xkc56 (T := T) (t := t) (k := k + 1) (by have := gk.2.2.2; omega)
  have z64 : (k + 1) * xgC T t + xgC T t ≤ 64 := by omega
  have ql : xq T t (k + 1) ≤ t := xq_le (k + 1) hq
  refine m_g19t (xMR_fr hR (j2 4 (by decide)) (j1 64 (by decide) (by decide))) (by rw [j2 6 (by decide)]; exact h6) j5 j6 (by have := gk.2.2.2; omega) j7 (Or.inr gk.2.2.1) (fun K a9 k1 k2 k3 k4 k5 => ?_)
  have s1 : xMR T t K := xMR_fr hR (by rw [k2 4 (by decide), j2 4 (by decide)]) (by rw [k1 64 (by decide), j1 64 (by decide) (by decide)])
  have s6 : K 60 6 = 0 := by rw [k2 6 (by decide), j2 6 (by decide)]; exact h6
  refine m_g40t s1 s6 k3 k4 (by have := gk.2.2.2; omega) k5 gk ?_
  refine xw_go xb_134 5 (f1 := (76, [.ref 60, .int (nI (xgC T t)), .int (nI (k + 1)), .float 0, .float 0], [.int (nI (xgC T t)), .int ((nI (xgC T t)) * (nI (k + 1))), .ref 60])) (h1 := (xS b, xm_up K 60 5 (nI (xq T t (k + 1))), L, xP b)) rfl trivial ?_
  refine xw_call xb_134 rfl rfl rfl rfl rfl (Or.inr ⟨_, _, rfl, rfl⟩) (m_row2B (I := (xm_up K 60 5 (nI (xq T t (k + 1))))) (z := (k + 1) * xgC T t) (c := xgC T t) (p := xq T t (k + 1)) (a := xq T t (k + 1)) (n := xgn T t (k + 1)) (xMR_fr s1 (by rw [xm_up_ne (Or.inr (by decide))]) (by rw [xm_up_o (by decide)])) (by rw [xm_up_ne (Or.inr (by decide))]; exact s6) (xm_up_at _ _ _ _) ql rfl ql bc z64 rfl hn1 (by rw [pk_mul, Nat.mul_comm]) rfl) ?_
  rintro _ _ ⟨v, rfl, M, rfl, m1, m2, m3, m4⟩
  refine xw_at (f' := (79, [.ref 60, .int (nI (xgC T t)), .int (nI (k + 1)), .float 0, .float 0], [.int v])) (h' := (xS b, M, L, xP b)) rfl rfl ?_
  refine xw_go xb_134 2 (f1 := (83, [.ref 60, .int (nI (xgC T t)), .int ((nI (k + 1)) + 1), .float 0, .float 0], [])) (h1 := (xS b, M, L, xP b)) rfl trivial ?_
  refine xw_cong (l' := [.ref 60, .int (nI (xgC T t)), .int (nI (k + 1 + 1)), .float 0, .float 0]) (st' := []) (h' := (xS b, M, L, xP b)) (show ([.ref 60, .int (nI (xgC T t)), .int ((nI (k + 1)) + 1), .float 0, .float 0] : List Value) = [.ref 60, .int (nI (xgC T t)), .int (nI (k + 1 + 1)), .float 0, .float 0] from ?_) rfl rfl ?_
  · rw [nI_1]
  refine xw_go xb_134 1 (f1 := (19, [.ref 60, .int (nI (xgC T t)), .int (nI (k + 1 + 1)), .float 0, .float 0], [])) (h1 := (xS b, M, L, xP b)) rfl trivial ?_
  refine xw_Q (m_gf19 (J := M) (F := xsk T t (xrp T t (xq T t (k + 1)) (xgn T t (k + 1)))) m4 m3) ?_
  rintro _ _ ⟨rfl, rfl⟩
  refine ⟨rfl, _, rfl, fun q h1 h2 => ?_, xm_up_at _ _ _ _, fun j h1 h2 h3 => ?_⟩
  · rw [xm_up_o h1, m1 q h1 h2, xm_up_o h1, k1 q h1]
    exact j1 q h1 h2
  · rw [xm_up_ne (Or.inr h1), m2 j h2 h3, xm_up_ne (Or.inr h2), k2 j h2]
    exact j2 j h2
theorem m_gEndB {d : Nat} {b : Bool} {I J : Nat → Nat → Int32} {L : Nat → Nat → Int64} {T : Nat → Nat} {t : Nat} (hR : xMR T t I) (h6 : I 60 6 = 0) {k : Nat} (hk : k ≤ 7) (h1 : ¬ (xlt T t (xrp T t (xq T t k) (xgC T t)) = 47 ∧ k < 7)) (h2 : ¬ (xlt T t (xrp T t (xq T t k) (xgC T t)) = 59 ∧ 1 ≤ k)) (hJ : xMK T t k I J) : xm_W (d + 3) 134 (19, [.ref 60, .int (nI (xgC T t)), .int (nI (k + 1)), .float 0, .float 0], []) (xS b, J, L, xP b) (fun rz hz => rz = some (.int (-20 - nI (xsk T t (xrp T t (xq T t k) (xgC T t))))) ∧ ∃ I', hz = (xS b, I', L, xP b) ∧ (∀ q, q ≠ 60 → q ≠ 65 → I' q = I q) ∧ I' 60 4 = 0 ∧ ∀ j, j ≠ 4 → j ≠ 5 → j ≠ 6 → I' 60 j = I 60 j) := by
  obtain ⟨j1, j2, ⟨a, j5, j6, j7⟩, j3⟩ := hJ
  have r1 := xMR_fr hR (j2 4 (by decide)) (j1 64 (by decide) (by decide))
  have g6 : J 60 6 = 0 := by rw [j2 6 (by decide)]; exact h6
  by_cases hg : k = 0 ∨ xlt T t (xrp T t (xq T t k) (xgC T t)) = 47
  · refine m_g19t r1 g6 j5 j6 hk j7 hg (fun K a9 k1 k2 k3 k4 k5 => ?_)
    refine xw_Q (m_g40f (J := K) (a := a9) (xMR_fr r1 (k2 4 (by decide)) (by rw [k1 64 (by decide)])) (by rw [k2 6 (by decide)]; exact g6) k3 k4 hk k5 h1) ?_
    rintro _ _ ⟨rfl, rfl⟩
    refine ⟨by rw [k5], _, rfl, fun q h1 h2 => ?_, xm_up_at _ _ _ _, fun j h1 h2 h3 => ?_⟩
    · rw [xm_up_o h1, xm_up_o h1, xm_up_o h1, k1 q h1]
      exact j1 q h1 h2
    · rw [xm_up_ne (Or.inr h1), xm_up_ne (Or.inr h3), xm_up_ne (Or.inr h2), k2 j h2]
      exact j2 j h2
  · refine m_g19f r1 g6 j5 j6 hk j7 ⟨by omega, fun q => hg (Or.inr q)⟩ ?_
    refine xw_Q (m_g86f (J := xm_up J 60 5 (nI (xsk T t a))) (a := xsk T t a) (xMR_fr r1 (by rw [xm_up_ne (Or.inr (by decide))]) (by rw [xm_up_o (by decide)])) (by rw [xm_up_ne (Or.inr (by decide))]; exact g6) (xm_up_at _ _ _ _) (xsk_le j6) hk (by rw [xsk_id]; exact j7) (fun q => h2 ⟨q, by omega⟩)) ?_
    rintro _ _ ⟨rfl, rfl⟩
    refine ⟨by rw [xsk_id, j7], _, rfl, fun q h1 h2 => ?_, xm_up_at _ _ _ _, fun j h1 h2 h3 => ?_⟩
    · rw [xm_up_o h1, xm_up_o h1, xm_up_o h1, xm_up_o h1]
      exact j1 q h1 h2
    · rw [xm_up_ne (Or.inr h1), xm_up_ne (Or.inr h3), xm_up_ne (Or.inr h2), xm_up_ne (Or.inr h2)]
      exact j2 j h2
theorem m_gEndG {d : Nat} {b : Bool} {I J : Nat → Nat → Int32} {L : Nat → Nat → Int64} {Q : Option Value → xm_H → Prop} {T : Nat → Nat} {t : Nat} (hR : xMR T t I) (h6 : I 60 6 = 0) {k : Nat} (hk : k ≤ 7) (hg : xgg T t k) (hJ : xMK T t k I J) (kk : ∀ K, (∀ q, q ≠ 60 → q ≠ 65 → K q = I q) → (∀ j, j ≠ 5 → K 60 j = I 60 j) → K 60 5 = nI (xq T t (k + 1)) → (∀ i, i < (k + 1) * xgC T t → K 65 i = nI (xgS T t i)) → xm_W (d + 3) 134 (111, [.ref 60, .int (nI (xgC T t)), .int (nI (k + 1)), .float 0, .float 0], []) (xS b, K, L, xP b) Q) : xm_W (d + 3) 134 (19, [.ref 60, .int (nI (xgC T t)), .int (nI (k + 1)), .float 0, .float 0], []) (xS b, J, L, xP b) Q := by
  obtain ⟨j1, j2, ⟨a, j5, j6, j7⟩, j3⟩ := hJ
  obtain ⟨g1, g2, g3, g4⟩ := hg
  have r1 := xMR_fr hR (j2 4 (by decide)) (j1 64 (by decide) (by decide))
  have g6 : J 60 6 = 0 := by rw [j2 6 (by decide)]; exact h6
  refine m_g19f r1 g6 j5 j6 hk j7 ⟨g4, by omega⟩ ?_
  refine m_g86t (J := xm_up J 60 5 (nI (xsk T t a))) (a := xsk T t a) (xMR_fr r1 (by rw [xm_up_ne (Or.inr (by decide))]) (by rw [xm_up_o (by decide)])) (by rw [xm_up_ne (Or.inr (by decide))]; exact g6) (xm_up_at _ _ _ _) (xsk_le j6) hk (by rw [xsk_id]; exact j7) g3 ?_
  rw [xup_2]
  refine kk _ (fun q h1 h2 => ?_) (fun j h1 => ?_) (xm_up_at _ _ _ _) (fun i hi => ?_)
  · rw [xm_up_o h1]
    exact j1 q h1 h2
  · rw [xm_up_ne (Or.inr h1)]
    exact j2 j h1
  · rw [xm_up_o (by decide)]
    exact j3 i hi
