/-! ===== the class: what falls ===== -/
def xdn {α : Type} (wi C m : Nat) (f g : Nat → α) : Nat → α := fun j => if wi ≤ j % C ∧ j < m then f j else g j
theorem xdn_0 {α : Type} {wi C : Nat} (f g : Nat → α) : xdn wi C 0 f g = g := by funext j; simp [xdn]
theorem xdn_row {α : Type} {wi C r : Nat} (f g : Nat → α) : xdn wi C (r * C + 0 + wi) f g = xdn wi C (r * C) f g := by
  funext j
  unfold xdn
  have key : (wi ≤ j % C ∧ j < r * C + 0 + wi) ↔ (wi ≤ j % C ∧ j < r * C) := by
    refine ⟨fun ⟨h1, h2⟩ => ⟨h1, ?_⟩, fun ⟨h1, h2⟩ => ⟨h1, by omega⟩⟩
    rcases Nat.lt_or_ge j (r * C) with q | q
    · exact q
    · exfalso
      rcases Nat.eq_zero_or_pos C with rfl | hC
      · simp at h1 h2
        omega
      · have h3 : r ≤ j / C := (Nat.le_div_iff_mul_le hC).mpr q
        have h4 := Nat.div_add_mod j C
        have h5 : C * r ≤ C * (j / C) := Nat.mul_le_mul_left C h3
        rw [Nat.mul_comm C r] at h5
        omega
  simp only [key]
theorem xdn_end {α : Type} {wi C r : Nat} (f g : Nat → α) (hC : 0 < C) : xdn wi C (r * C + (C - wi) + wi) f g = xdn wi C ((r + 1) * C) f g := by
  funext j
  unfold xdn
  have h1 := Nat.mod_lt j hC
  rw [Nat.succ_mul]
  by_cases h : wi ≤ C
  · rw [show r * C + (C - wi) + wi = r * C + C by omega]
  · rw [if_neg (by omega), if_neg (by omega)]
theorem xdn_up {α : Type} (I : Nat → Nat → α) (t m wi C : Nat) (f g : Nat → α) {v : α} (hv : v = f m) (hm : wi ≤ m % C) : xm_up (va_up I t (xdn wi C m f g)) t m v = va_up I t (xdn wi C (m + 1) f g) := by
  subst hv
  funext a j
  by_cases ha : a = t
  · subst ha
    by_cases hj : j = m
    · subst hj
      simp [xm_up, va_up, xdn, hm]
    · simp only [xm_up, va_up, xdn, if_true, hj, if_false]
      by_cases h1 : wi ≤ j % C ∧ j < m
      · rw [if_pos h1, if_pos ⟨h1.1, by omega⟩]
      · rw [if_neg h1, if_neg (fun q => h1 ⟨q.1, by omega⟩)]
  · simp [xm_up, va_up, ha]
theorem xrow_div {C r q : Nat} (h : q < C) : (r * C + q) / C = r ∧ (r * C + q) % C = q := by
  have hC : 0 < C := by omega
  refine ⟨?_, ?_⟩
  · rw [Nat.add_comm, Nat.add_mul_div_right _ _ hC, Nat.div_eq_of_lt h, Nat.zero_add]
  · rw [Nat.add_comm, Nat.add_mul_mod_self_right, Nat.mod_eq_of_lt h]
theorem xrow_lt {R C r q : Nat} (hr : r < R) (h : q < C) : r * C + q < R * C := by
  have : (r + 1) * C ≤ R * C := Nat.mul_le_mul_right C hr
  rw [Nat.succ_mul] at this
  omega
set_option maxHeartbeats 4000000 in
theorem c_addFrom {d : Nat} {b : Bool} {I : Nat → Nat → Int32} {L : Nat → Nat → Int64} {R C : Nat} (hR : I 1 0 = nI R) (hC : I 1 1 = nI C) (bR : R ≤ 8) (bC : C ≤ 8) (b0 : 0 < C) {a k re w : Nat} (ha : (xS b)[a]? = some (11, 4)) (hk : I a 0 = nI k) (hre : I a 2 = nI re) (hw : I a 3 = nI w) (bk : k < 5) (bre : re < 5) (bw : w < 10) {pl wi : Nat} (bpl : pl < R * C) (bwi : wi < 4) {fv : Nat → Nat} (hf : ∀ j, j < R * C → I 21 j = nI (fv j)) {x1 x2 : Int32} (e1 : x1 = nI pl) (e2 : x2 = nI wi) : xm_Z (d + 3) 23 [.ref 20, .ref 1, .ref a, .int x1, .int x2] (xS b, I, L, xP b) (fun rz hz => rz = none ∧ hz = (xS b, va_up I 21 (xdn wi C (R * C) (fun j => nI (fv j + xs_thr k re w (j / C) (pl / C) (j % C - wi) (pl % C))) (I 21)), L, xP b)) := by
  subst e1
  subst e2
  have h64 := xmul64 bR bC
  have hna : a ≠ 21 := by
    rintro rfl
    have : (xS b)[21]? = some (0, 64) := rfl
    rw [this] at ha
    cases ha
  have hr0 : pl / C < R := (Nat.div_lt_iff_lt_mul b0).mpr bpl
  have hq0 : pl % C < C := Nat.mod_lt _ b0
  refine xw_S xb_23 (Nat.le_of_ble_eq_true rfl) rfl ?_
  refine xw_go xb_23 2 rfl trivial ?_
  refine xw_call xb_23 rfl rfl rfl rfl rfl (Or.inr ⟨_, _, rfl, rfl⟩) (c_rowOf hC ⟨b0, bC⟩ (c := pl) (by omega) rfl) ?_
  rintro _ _ ⟨rfl, rfl⟩
  refine xw_go xb_23 10 rfl ⟨rfl, trivial⟩ ?_
  refine xw_cong (l' := [.ref 20, .ref 1, .ref a, .int (nI pl), .int (nI wi), .int (nI (pl / C)), .int (nI (pl % C)), .int (nI 0), .float 0, .float 0]) ?_ rfl (h' := (xS b, va_up I 21 (xdn wi C (0 * C) (fun j => nI (fv j + xs_thr k re w (j / C) (pl / C) (j % C - wi) (pl % C))) (I 21)), L, xP b)) ?_ ?_
  · show [Value.ref 20, .ref 1, .ref a, .int (nI pl), .int (nI wi), .int (nI (pl / C)), .int (nI pl - nI (pl / C) * I 1 1), .int 0, .float 0, .float 0] = _
    rw [hC, ← xn_rem (a := pl) (d := C) (by omega) (by omega) (by omega), xn_div (by omega) (by omega) (by omega)]
    rfl
  · rw [Nat.zero_mul, xdn_0, xm_up_id]
  refine xw_loop R (fun r => (21, [.ref 20, .ref 1, .ref a, .int (nI pl), .int (nI wi), .int (nI (pl / C)), .int (nI (pl % C)), .int (nI r), .float 0, .float 0], [])) (fun r => (xS b, va_up I 21 (xdn wi C (r * C) (fun j => nI (fv j + xs_thr k re w (j / C) (pl / C) (j % C - wi) (pl % C))) (I 21)), L, xP b)) (fun r hr ih => ?_) ?_ 0 (Nat.zero_le _)
  · have hrC : r * C + C ≤ R * C := by
      have : (r + 1) * C ≤ R * C := Nat.mul_le_mul_right C hr
      rw [Nat.succ_mul] at this
      exact this
    refine xw_go xb_23 4 rfl ⟨rfl, trivial⟩ ?_
    refine xw_if (fun c_27 => ?_) (fun c_27 => ?_)
    · skip
      exfalso
      change I 1 0 ≤ nI r at c_27
      simp (disch := omega) only [hR, nI_leI] at c_27
      omega
    · skip
      refine xw_go xb_23 7 rfl ⟨rfl, trivial⟩ ?_
      refine xw_cong (l' := [.ref 20, .ref 1, .ref a, .int (nI pl), .int (nI wi), .int (nI (pl / C)), .int (nI (pl % C)), .int (nI r), .int (nI (r * C)), .int (nI 0)]) ?_ rfl (h' := (xS b, va_up I 21 (xdn wi C (r * C + 0 + wi) (fun j => nI (fv j + xs_thr k re w (j / C) (pl / C) (j % C - wi) (pl % C))) (I 21)), L, xP b)) ?_ ?_
      · show [Value.ref 20, .ref 1, .ref a, .int (nI pl), .int (nI wi), .int (nI (pl / C)), .int (nI (pl % C)), .int (nI r), .int (nI r * I 1 1), .int 0] = _
        rw [hC, pk_mul]
        rfl
      · show (xS b, va_up I 21 (xdn wi C (r * C) (fun j => nI (fv j + xs_thr k re w (j / C) (pl / C) (j % C - wi) (pl % C))) (I 21)), L, xP b) = _
        rw [xdn_row]
      refine xw_loop (C - wi) (fun q => (42, [.ref 20, .ref 1, .ref a, .int (nI pl), .int (nI wi), .int (nI (pl / C)), .int (nI (pl % C)), .int (nI r), .int (nI (r * C)), .int (nI q)], [])) (fun q => (xS b, va_up I 21 (xdn wi C (r * C + q + wi) (fun j => nI (fv j + xs_thr k re w (j / C) (pl / C) (j % C - wi) (pl % C))) (I 21)), L, xP b)) (fun q hq ih2 => ?_) ?_ 0 (Nat.zero_le _)
      · obtain ⟨e1, e2⟩ := xrow_div (C := C) (r := r) (q := q + wi) (by omega)
        have e0 := xrow_lt (C := C) (q := q + wi) hr (by omega)
        refine xw_go xb_23 6 rfl ⟨rfl, trivial⟩ ?_
        refine xw_if (fun c_51 => ?_) (fun c_51 => ?_)
        · skip
          exfalso
          change I 1 1 ≤ nI q + nI wi at c_51
          simp (disch := omega) only [hC, nI_add, nI_leI] at c_51
          omega
        · skip
          refine xw_go xb_23 16 rfl ⟨rfl, (by show xm_ar _ 21 0 (nI (r * C) + nI q + nI wi); rw [nI_add, nI_add]; exact xn_ar (N := 64) rfl (by omega) (by decide)), trivial⟩ ?_
          refine xw_call xb_23 rfl rfl rfl rfl rfl (Or.inr ⟨_, _, rfl, ha⟩) (c_thrown ha (by show va_up I 21 _ a 0 = _; rw [xm_vu_o hna]; exact hk) (by show va_up I 21 _ a 2 = _; rw [xm_vu_o hna]; exact hre) (by show va_up I 21 _ a 3 = _; rw [xm_vu_o hna]; exact hw) (by omega) (by omega) (by omega) (r := r) (r0 := pl / C) (q := q) (q0 := pl % C) (by omega) (by omega) (by omega) (by omega) rfl rfl) ?_
          rintro _ _ ⟨rfl, rfl⟩
          refine xw_go xb_23 4 rfl ⟨(by show xm_ar _ 21 0 (nI (r * C) + nI q + nI wi); rw [nI_add, nI_add]; exact xn_ar (N := 64) rfl (by omega) (by decide)), trivial⟩ ?_
          refine xw_cong ?_ rfl ?_ ih2
          · show [Value.ref 20, .ref 1, .ref a, .int (nI pl), .int (nI wi), .int (nI (pl / C)), .int (nI (pl % C)), .int (nI r), .int (nI (r * C)), .int (nI q + 1)] = _
            rw [nI_1]
          · show (xS b, xm_up (va_up I 21 (xdn wi C (r * C + q + wi) (fun j => nI (fv j + xs_thr k re w (j / C) (pl / C) (j % C - wi) (pl % C))) (I 21))) 21 (nI (r * C) + nI q + nI wi).toNatClampNeg ((va_up I 21 (xdn wi C (r * C + q + wi) (fun j => nI (fv j + xs_thr k re w (j / C) (pl / C) (j % C - wi) (pl % C))) (I 21))) 21 (nI (r * C) + nI q + nI wi).toNatClampNeg + nI (xs_thr k re w r (pl / C) q (pl % C))), L, xP b) = _
            rw [nI_add, nI_add, xn_cl (by omega)]
            have e5 : (va_up I 21 (xdn wi C (r * C + q + wi) (fun j => nI (fv j + xs_thr k re w (j / C) (pl / C) (j % C - wi) (pl % C))) (I 21))) 21 (r * C + q + wi) = nI (fv (r * C + q + wi)) := by
              simp only [va_up, if_true, xdn]
              rw [if_neg (by omega)]
              exact hf _ (by omega)
            rw [e5, nI_add, show r * C + (q + 1) + wi = r * C + q + wi + 1 by omega]
            rw [xdn_up I 21 (r * C + q + wi) wi C _ _ ?_ (by rw [Nat.add_assoc, e2]; omega)]
            rw [Nat.add_assoc (r * C), e1, e2, show q + wi - wi = q by omega]
      · skip
        refine xw_go xb_23 6 rfl ⟨rfl, trivial⟩ ?_
        refine xw_if (fun c_51 => ?_) (fun c_51 => ?_)
        · skip
          refine xw_go xb_23 2 rfl trivial ?_
          refine xw_cong ?_ rfl ?_ (xw_fg (l0 := [.ref 20, .ref 1, .ref a, .int (nI pl), .int (nI wi), .int (nI (pl / C)), .int (nI (pl % C)), .int (nI (r + 1)), .float 0, .float 0]) ⟨Or.inr rfl, Or.inr rfl, Or.inr rfl, Or.inr rfl, Or.inr rfl, Or.inr rfl, Or.inr rfl, Or.inr rfl, Or.inl rfl, Or.inl rfl, trivial⟩ ih) (l' := [.ref 20, .ref 1, .ref a, .int (nI pl), .int (nI wi), .int (nI (pl / C)), .int (nI (pl % C)), .int (nI (r + 1)), .int (nI (r * C)), .int (nI (C - wi))])
          · show [Value.ref 20, .ref 1, .ref a, .int (nI pl), .int (nI wi), .int (nI (pl / C)), .int (nI (pl % C)), .int (nI r + 1), .int (nI (r * C)), .int (nI (C - wi))] = _
            rw [nI_1]
          · show (xS b, va_up I 21 (xdn wi C (r * C + (C - wi) + wi) (fun j => nI (fv j + xs_thr k re w (j / C) (pl / C) (j % C - wi) (pl % C))) (I 21)), L, xP b) = _
            rw [xdn_end _ _ b0]
        · skip
          exfalso
          change ¬ I 1 1 ≤ nI (C - wi) + nI wi at c_51
          simp (disch := omega) only [hC, nI_add, nI_leI] at c_51
          omega
  · skip
    refine xw_go xb_23 4 rfl ⟨rfl, trivial⟩ ?_
    refine xw_if (fun c_27 => ?_) (fun c_27 => ?_)
    · skip
      refine xw_ret xb_23 rfl rfl trivial ?_
      exact ⟨rfl, rfl⟩
    · skip
      exfalso
      change ¬ I 1 0 ≤ nI R at c_27
      simp (disch := omega) only [hR, nI_leI] at c_27
      omega
