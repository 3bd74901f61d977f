/-! ===== the class: what is taken, what runs off ===== -/
/-- what runs off the cells of a column above a row -/
def xro (fv so : Nat → Nat) (C : Nat) : Nat → Nat → Nat
  | 0, _ => 0
  | r + 1, q => (fv (r * C + q) + xro fv so C r q) - xs_tk (so (r * C + q)) (fv (r * C + q) + xro fv so C r q)
/-- what a cell takes -/
def xtk (fv so : Nat → Nat) (C c : Nat) : Nat := xs_tk (so c) (fv c + xro fv so C (c / C) (c % C))
/-- what is lost -/
def xlost (fv so : Nat → Nat) (R C : Nat) : Nat := xsum (fun q => xro fv so C R q) C
theorem xs_tk_le (so w : Nat) : xs_tk so w ≤ w := by unfold xs_tk; (repeat' split) <;> omega
theorem xro_le {fv so : Nat → Nat} {R C M : Nat} (h : ∀ j, j < R * C → fv j ≤ M) : ∀ r q, r ≤ R → q < C → xro fv so C r q ≤ r * M
  | 0, _, _, _ => Nat.zero_le _
  | r + 1, q, hr, hq => by
    have h1 := xro_le (so := so) h r q (by omega) hq
    have h2 := h (r * C + q) (xrow_lt hr hq)
    simp only [xro, Nat.succ_mul]
    omega
theorem xtk_le {fv so : Nat → Nat} {R C M : Nat} (h : ∀ j, j < R * C → fv j ≤ M) {c : Nat} (hc : c < R * C) (h0 : 0 < C) : xtk fv so C c ≤ (R + 1) * M := by
  have h1 : c / C < R := (Nat.div_lt_iff_lt_mul h0).mpr hc
  have h2 := xro_le (so := so) h (c / C) (c % C) (by omega) (Nat.mod_lt _ h0)
  have h3 := h c hc
  have h4 := xs_tk_le (so c) (fv c + xro fv so C (c / C) (c % C))
  have h5 : c / C * M ≤ R * M := Nat.mul_le_mul_right M (by omega)
  unfold xtk
  rw [Nat.succ_mul]
  omega
theorem xup_c {α : Type} {I : Nat → Nat → α} {a t k : Nat} {f : Nat → α} {v : α} (h : t ≠ a) : xm_up (va_up I a f) t k v = va_up (xm_up I t k v) a f := by
  funext x j
  by_cases h1 : x = t
  · subst h1
    simp [xm_up, va_up, h]
  · by_cases h2 : x = a
    · subst h2
      simp [xm_up, va_up, h1]
    · simp [xm_up, va_up, h1, h2]
theorem xup_s {α : Type} {I : Nat → Nat → α} {a k : Nat} {f : Nat → α} {v : α} : xm_up (va_up I a f) a k v = va_up I a (va_up f k v) := by
  funext x j
  by_cases h1 : x = a
  · subst h1
    simp [xm_up, va_up]
  · simp [xm_up, va_up, h1]
theorem xvv_s {α : Type} {I : Nat → α} {a : Nat} {f g : α} : va_up (va_up I a f) a g = va_up I a g := by
  funext x
  by_cases h1 : x = a
  · subst h1; simp [va_up]
  · simp [va_up, h1]
/-- the row of what runs, at row r, column q -/
def xrr (fv so : Nat → Nat) (C r q : Nat) : Nat → Int32 := fun j => nI (if j < C then (if j < q then xro fv so C (r + 1) j else xro fv so C r j) else 0)
theorem xrr_up {fv so : Nat → Nat} {C r q : Nat} {g : Nat → Int32} (hq : q < C) (hC : C ≤ 8) : va_up (xfil 8 (xrr fv so C r q) g) q (nI (xro fv so C (r + 1) q)) = xfil 8 (xrr fv so C r (q + 1)) g := by
  funext j
  by_cases hj : j = q
  · subst hj
    simp only [va_up, if_true, xfil, xrr]
    rw [if_pos (by omega), if_pos hq, if_pos (by omega)]
  · simp only [va_up, hj, if_false, xfil, xrr]
    by_cases h8 : j < 8
    · rw [if_pos h8, if_pos h8]
      by_cases hjC : j < C
      · rw [if_pos hjC, if_pos hjC]
        by_cases h1 : j < q
        · rw [if_pos h1, if_pos (by omega)]
        · rw [if_neg h1, if_neg (by omega)]
      · rw [if_neg hjC, if_neg hjC]
    · rw [if_neg h8, if_neg h8]
theorem xrr_end {fv so : Nat → Nat} {C r : Nat} : xrr fv so C r C = xrr fv so C (r + 1) 0 := by
  funext j
  unfold xrr
  by_cases hj : j < C
  · simp [hj]
  · simp [hj]
theorem xrr_0 {fv so : Nat → Nat} {C : Nat} : xrr fv so C 0 0 = fun _ => 0 := by
  funext j
  unfold xrr
  by_cases hj : j < C
  · simp only [hj, if_true, Nat.not_lt_zero, if_false, xro]
    rfl
  · simp only [hj, if_false]
    rfl
theorem xup_2 {α : Type} {I : Nat → Nat → α} {a k : Nat} {v w : α} : xm_up (xm_up I a k v) a k w = xm_up I a k w := by
  funext x j
  by_cases h1 : x = a
  · subst h1
    by_cases h2 : j = k
    · subst h2; simp [xm_up, va_up]
    · simp [xm_up, va_up, h2]
  · simp [xm_up, va_up, h1]
set_option maxHeartbeats 4000000 in
theorem c_share {d : Nat} {b : Bool} {I : Nat → Nat → Int32} {L : Nat → Nat → Int64} {R C : Nat} (hR : I 1 0 = nI R) (hC : I 1 1 = nI C) (bR : R ≤ 8) (bC : C ≤ 8) (b0 : 0 < C) {so : Nat → Nat} (hs : ∀ c, c < 64 → I 2 c = nI (so c)) (bs : ∀ c, c < 64 → so c < 3) {fv : Nat → Nat} (hf : ∀ j, j < R * C → I 21 j = nI (fv j)) (bf : ∀ j, j < R * C → fv j ≤ 1000) : xm_Z (d + 2) 32 [.ref 20, .ref 1] (xS b, I, L, xP b) (fun rz hz => rz = none ∧ ∃ X, hz = (xS b, xm_up (va_up (va_up I 23 X) 22 (xfil (R * C) (fun j => nI (xtk fv so C j)) (I 22))) 20 3 (nI (xlost fv so R C)), L, xP b)) := by
  have h64 := xmul64 bR bC
  refine xw_S xb_32 (Nat.le_of_ble_eq_true rfl) rfl ?_
  refine xw_go xb_32 3 rfl ⟨rfl, trivial⟩ ?_
  refine xw_call xb_32 rfl rfl rfl rfl rfl (Or.inl rfl) (c_fill (n := 8) rfl (by decide)) ?_
  rintro _ _ ⟨rfl, rfl⟩
  refine xw_go xb_32 2 rfl trivial ?_
  refine xw_cong (l' := [.ref 20, .ref 1, .int (nI 0), .float 0, .float 0, .float 0]) rfl rfl (h' := (xS b, (va_up (va_up I 23 (xfil 8 (xrr fv so C 0 0) (I 23))) 22 (xfil (0 * C) (fun j => nI (xtk fv so C j)) (I 22))), L, xP b)) ?_ ?_
  · rw [Nat.zero_mul, xfil_0, xrr_0]
    show _ = (xS b, va_up (va_up I 23 (xfil 8 (fun _ => 0) (I 23))) 22 (va_up I 23 (xfil 8 (fun _ => 0) (I 23)) 22), L, xP b)
    rw [xm_up_id]
  refine xw_loop R (fun r => (10, [.ref 20, .ref 1, .int (nI r), .float 0, .float 0, .float 0], [])) (fun r => (xS b, (va_up (va_up I 23 (xfil 8 (xrr fv so C r 0) (I 23))) 22 (xfil (r * C) (fun j => nI (xtk fv so C j)) (I 22))), L, xP b)) (fun r hr ih => ?_) ?_ 0 (Nat.zero_le _)
  · have hrC : r * C + C ≤ R * C := by
      have : (r + 1) * C ≤ R * C := Nat.mul_le_mul_right C hr
      rw [Nat.succ_mul] at this
      exact this
    refine xw_go xb_32 4 rfl ⟨rfl, trivial⟩ ?_
    refine xw_if (fun c_15 => ?_) (fun c_15 => ?_)
    · skip
      exfalso
      change I 1 0 ≤ nI r at c_15
      simp (disch := omega) only [hR, nI_leI] at c_15
      omega
    · skip
      refine xw_go xb_32 2 rfl trivial ?_
      refine xw_cong (l' := [.ref 20, .ref 1, .int (nI r), .int (nI 0), .float 0, .float 0]) rfl rfl (h' := (xS b, (va_up (va_up I 23 (xfil 8 (xrr fv so C r 0) (I 23))) 22 (xfil (r * C + 0) (fun j => nI (xtk fv so C j)) (I 22))), L, xP b)) rfl ?_
      refine xw_loop C (fun q => (20, [.ref 20, .ref 1, .int (nI r), .int (nI q), .float 0, .float 0], [])) (fun q => (xS b, (va_up (va_up I 23 (xfil 8 (xrr fv so C r q) (I 23))) 22 (xfil (r * C + q) (fun j => nI (xtk fv so C j)) (I 22))), L, xP b)) (fun q hq ih2 => ?_) ?_ 0 (Nat.zero_le _)
      · obtain ⟨e1, e2⟩ := xrow_div (C := C) (r := r) (q := q) hq
        have e0 := xrow_lt (C := C) (q := q) hr hq
        have f1 := bf _ e0
        have f2 := xro_le (so := so) (fun j hj => bf j hj) r q (by omega) hq
        have f4 : r * 1000 ≤ 8 * 1000 := Nat.mul_le_mul_right 1000 (by omega)
        have f3 := xs_tk_le (so (r * C + q)) (fv (r * C + q) + xro fv so C r q)
        have g1 : (va_up (va_up I 23 (xfil 8 (xrr fv so C r q) (I 23))) 22 (xfil (r * C + q) (fun j => nI (xtk fv so C j)) (I 22))) 21 (r * C + q) = nI (fv (r * C + q)) := by
          show I 21 _ = _
          exact hf _ e0
        have g2 : (va_up (va_up I 23 (xfil 8 (xrr fv so C r q) (I 23))) 22 (xfil (r * C + q) (fun j => nI (xtk fv so C j)) (I 22))) 23 q = nI (xro fv so C r q) := by
          show xfil 8 (xrr fv so C r q) (I 23) q = _
          simp only [xfil, xrr]
          rw [if_pos (by omega), if_pos hq, if_neg (by omega)]
        refine xw_go xb_32 4 rfl ⟨rfl, trivial⟩ ?_
        refine xw_if (fun c_25 => ?_) (fun c_25 => ?_)
        · skip
          exfalso
          change I 1 1 ≤ nI q at c_25
          simp (disch := omega) only [hC, nI_leI] at c_25
          omega
        · skip
          refine xw_go xb_32 17 rfl ⟨rfl, rfl, (by show xm_ar _ _ 0 (nI r * I 1 1 + nI q); rw [hC, pk_mul, nI_add]; exact xn_ar (N := 64) rfl (by omega) (by decide)), rfl, (xn_ar (N := 8) rfl (by omega) (by decide)), trivial⟩ ?_
          refine xw_cong (l' := [.ref 20, .ref 1, .int (nI r), .int (nI q), .int (nI (r * C + q)), .int (nI (fv (r * C + q) + xro fv so C r q))]) ?_ rfl rfl ?_
          · show [Value.ref 20, .ref 1, .int (nI r), .int (nI q), .int (nI r * I 1 1 + nI q), .int ((va_up (va_up I 23 (xfil 8 (xrr fv so C r q) (I 23))) 22 (xfil (r * C + q) (fun j => nI (xtk fv so C j)) (I 22))) 21 (nI r * I 1 1 + nI q).toNatClampNeg + (va_up (va_up I 23 (xfil 8 (xrr fv so C r q) (I 23))) 22 (xfil (r * C + q) (fun j => nI (xtk fv so C j)) (I 22))) 23 (nI q).toNatClampNeg)] = _
            rw [hC, pk_mul, nI_add, xn_cl (by omega), xn_cl (by omega), g1, g2, nI_add]
          refine xw_go xb_32 8 rfl ⟨rfl, rfl, (xn_ar (N := 64) rfl (by omega) (by decide)), trivial⟩ ?_
          refine xw_call xb_32 rfl rfl rfl rfl rfl (Or.inl rfl) (c_taken (so := so (r * C + q)) (w := fv (r * C + q) + xro fv so C r q) (bs _ (by omega)) (by omega) (by show I 2 (nI (r * C + q)).toNatClampNeg = _; rw [xn_cl (by omega)]; exact hs _ (by omega)) rfl) ?_
          rintro _ _ ⟨rfl, rfl⟩
          refine xw_go xb_32 1 rfl ⟨(xn_ar (N := 64) rfl (by omega) (by decide)), trivial⟩ ?_
          refine xw_cong rfl rfl (h' := (xS b, (va_up (va_up I 23 (xfil 8 (xrr fv so C r q) (I 23))) 22 (xfil (r * C + q + 1) (fun j => nI (xtk fv so C j)) (I 22))), L, xP b)) ?_ ?_
          · show (xS b, xm_up (va_up (va_up I 23 (xfil 8 (xrr fv so C r q) (I 23))) 22 (xfil (r * C + q) (fun j => nI (xtk fv so C j)) (I 22))) 22 (nI (r * C + q)).toNatClampNeg (nI (xs_tk (so (r * C + q)) (fv (r * C + q) + xro fv so C r q))), L, xP b) = _
            rw [xn_cl (by omega), xfil_up _ _ _ _ _ (by unfold xtk; rw [e1, e2])]
          refine xw_go xb_32 12 rfl ⟨rfl, rfl, (xn_ar (N := 64) rfl (by omega) (by decide)), (xn_ar (N := 8) rfl (by omega) (by decide)), trivial⟩ ?_
          refine xw_cong ?_ rfl ?_ (xw_fg (l0 := [.ref 20, .ref 1, .int (nI r), .int (nI (q + 1)), .float 0, .float 0]) ⟨Or.inr rfl, Or.inr rfl, Or.inr rfl, Or.inr rfl, Or.inl rfl, Or.inl rfl, trivial⟩ ih2) (l' := [.ref 20, .ref 1, .int (nI r), .int (nI (q + 1)), .int (nI (r * C + q)), .int (nI (fv (r * C + q) + xro fv so C r q))])
          · show [Value.ref 20, .ref 1, .int (nI r), .int (nI q + 1), .int (nI (r * C + q)), .int (nI (fv (r * C + q) + xro fv so C r q))] = _
            rw [nI_1]
          · show (xS b, xm_up (va_up (va_up I 23 (xfil 8 (xrr fv so C r q) (I 23))) 22 (xfil (r * C + q + 1) (fun j => nI (xtk fv so C j)) (I 22))) 23 (nI q).toNatClampNeg (nI (fv (r * C + q) + xro fv so C r q) - xfil (r * C + q + 1) (fun j => nI (xtk fv so C j)) (I 22) (nI (r * C + q)).toNatClampNeg), L, xP b) = _
            rw [xn_cl (by omega), xn_cl (by omega)]
            have g3 : xfil (r * C + q + 1) (fun j => nI (xtk fv so C j)) (I 22) (r * C + q) = nI (xs_tk (so (r * C + q)) (fv (r * C + q) + xro fv so C r q)) := by
              simp only [xfil, xtk]
              rw [if_pos (by omega), e1, e2]
            rw [g3, xn_sub f3, xup_c (by decide), xup_s, show fv (r * C + q) + xro fv so C r q - xs_tk (so (r * C + q)) (fv (r * C + q) + xro fv so C r q) = xro fv so C (r + 1) q from rfl, xrr_up hq (by omega)]
            rfl
      · skip
        refine xw_go xb_32 4 rfl ⟨rfl, trivial⟩ ?_
        refine xw_if (fun c_25 => ?_) (fun c_25 => ?_)
        · skip
          refine xw_go xb_32 2 rfl trivial ?_
          refine xw_cong ?_ rfl ?_ (xw_fg (l0 := [.ref 20, .ref 1, .int (nI (r + 1)), .float 0, .float 0, .float 0]) ⟨Or.inr rfl, Or.inr rfl, Or.inr rfl, Or.inl rfl, Or.inl rfl, Or.inl rfl, trivial⟩ ih) (l' := [.ref 20, .ref 1, .int (nI (r + 1)), .int (nI C), .float 0, .float 0])
          · show [Value.ref 20, .ref 1, .int (nI r + 1), .int (nI C), .float 0, .float 0] = _
            rw [nI_1]
          · show (xS b, (va_up (va_up I 23 (xfil 8 (xrr fv so C r C) (I 23))) 22 (xfil (r * C + C) (fun j => nI (xtk fv so C j)) (I 22))), L, xP b) = _
            rw [xrr_end, Nat.succ_mul]
        · skip
          exfalso
          change ¬ I 1 1 ≤ nI C at c_25
          simp (disch := omega) only [hC, nI_leI] at c_25
          omega
  · skip
    refine xw_go xb_32 4 rfl ⟨rfl, trivial⟩ ?_
    refine xw_if (fun c_15 => ?_) (fun c_15 => ?_)
    · skip
      refine xw_go xb_32 5 rfl ⟨rfl, trivial⟩ ?_
      refine xw_cong (l' := [.ref 20, .ref 1, .int (nI 0), .float 0, .float 0, .float 0]) rfl rfl (h' := (xS b, xm_up (va_up (va_up I 23 (xfil 8 (xrr fv so C R 0) (I 23))) 22 (xfil (R * C) (fun j => nI (xtk fv so C j)) (I 22))) 20 3 (nI (xsum (fun q => xro fv so C R q) 0)), L, xP b)) rfl ?_
      refine xw_loop C (fun q => (108, [.ref 20, .ref 1, .int (nI q), .float 0, .float 0, .float 0], [])) (fun q => (xS b, xm_up (va_up (va_up I 23 (xfil 8 (xrr fv so C R 0) (I 23))) 22 (xfil (R * C) (fun j => nI (xtk fv so C j)) (I 22))) 20 3 (nI (xsum (fun q => xro fv so C R q) q)), L, xP b)) (fun q hq ih3 => ?_) ?_ 0 (Nat.zero_le _)
      · skip
        refine xw_go xb_32 4 rfl ⟨rfl, trivial⟩ ?_
        refine xw_if (fun c_113 => ?_) (fun c_113 => ?_)
        · skip
          exfalso
          change I 1 1 ≤ nI q at c_113
          simp (disch := omega) only [hC, nI_leI] at c_113
          omega
        · skip
          refine xw_go xb_32 11 rfl ⟨rfl, rfl, (xn_ar (N := 8) rfl (by omega) (by decide)), rfl, trivial⟩ ?_
          refine xw_cong ?_ rfl ?_ ih3
          · show [Value.ref 20, .ref 1, .int (nI q + 1), .float 0, .float 0, .float 0] = _
            rw [nI_1]
          · show (xS b, xm_up (xm_up (va_up (va_up I 23 (xfil 8 (xrr fv so C R 0) (I 23))) 22 (xfil (R * C) (fun j => nI (xtk fv so C j)) (I 22))) 20 3 (nI (xsum (fun q => xro fv so C R q) q))) 20 3 (nI (xsum (fun q => xro fv so C R q) q) + xfil 8 (xrr fv so C R 0) (I 23) (nI q).toNatClampNeg), L, xP b) = _
            rw [xn_cl (by omega)]
            have g4 : xfil 8 (xrr fv so C R 0) (I 23) q = nI (xro fv so C R q) := by
              simp only [xfil, xrr]
              rw [if_pos (by omega), if_pos hq, if_neg (by omega)]
            rw [g4, nI_add, xup_2]
            rfl
      · skip
        refine xw_go xb_32 4 rfl ⟨rfl, trivial⟩ ?_
        refine xw_if (fun c_113 => ?_) (fun c_113 => ?_)
        · skip
          refine xw_ret xb_32 rfl rfl trivial ?_
          exact ⟨rfl, _, rfl⟩
        · skip
          exfalso
          change ¬ I 1 1 ≤ nI C at c_113
          simp (disch := omega) only [hC, nI_leI] at c_113
          omega
    · skip
      exfalso
      change ¬ I 1 0 ≤ nI R at c_15
      simp (disch := omega) only [hR, nI_leI] at c_15
      omega
