/-! ===== the model: what falls ===== -/
set_option maxHeartbeats 4000000 in
theorem m_rains {d : Nat} {b : Bool} {I : Nat → Nat → Int32} {L : Nat → Nat → Int64} {N : Nat → Nat} (hM : xMN N I) (hO : xOK N) {o wi : Nat} (bo : o < 32) (bw : wi < 4) {x1 : Int32} (e_x1 : x1 = nI o) {x2 : Int32} (e_x2 : x2 = nI wi) : xm_Z (d + 3) 122 [.ref 60, .int x1, .int x2] (xS b, I, L, xP b) (fun rz hz => rz = none ∧ ∃ X, hz = (xS b, va_up I 62 X, L, xP b) ∧ ∀ j, j < xce N → X j = nI (xfa N o wi j)) := by
  subst e_x1
  subst e_x2
  have hb := hO.1
  have c64 : N 0 * N 1 ≤ 64 := xce_le hO
  have hN1 : 0 < N 1 := by omega
  refine xw_S xb_122 (l := [.ref 60, .int (nI o), .int (nI wi), .float 0, .float 0]) (Nat.le_of_ble_eq_true rfl) rfl ?_
  refine xw_go xb_122 2 (f1 := (2, [.ref 60, .int (nI o), .int (nI wi), .int 0, .float 0], [])) (h1 := (xS b, I, L, xP b)) rfl trivial ?_
  refine xw_at (f' := (2, [.ref 60, .int (nI o), .int (nI wi), .int (nI 0), .float 0], [])) (h' := (xS b, va_up I 62 (xfil 0 (fun j => nI (xfa N o wi j)) (I 62)), L, xP b)) rfl (by rw [xfil_0, xm_up_id]) ?_
  refine xw_loop (N 0 * N 1) (fun c => (2, [.ref 60, .int (nI o), .int (nI wi), .int (nI c), .float 0], [])) (fun c => (xS b, va_up I 62 (xfil c (fun j => nI (xfa N o wi j)) (I 62)), L, xP b)) (fun c hc ih => ?_) ?_ 0 (Nat.zero_le _)
  · skip
    refine xw_go xb_122 2 (f1 := (4, [.ref 60, .int (nI o), .int (nI wi), .int (nI c), .float 0], [.ref 60, .int (nI c)])) (h1 := (xS b, va_up I 62 (xfil c (fun j => nI (xfa N o wi j)) (I 62)), L, xP b)) rfl trivial ?_
    refine xw_call xb_122 rfl rfl rfl rfl rfl (Or.inr ⟨_, _, rfl, rfl⟩) (m_cells (I := (va_up I 62 (xfil c (fun j => nI (xfa N o wi j)) (I 62)))) (fun k hk => hM k hk)) ?_
    rintro _ _ ⟨rfl, rfl⟩
    refine xw_at (f' := (7, [.ref 60, .int (nI o), .int (nI wi), .int (nI c), .float 0], [.int (nI (N 0 * N 1)), .int (nI c)])) (h' := (xS b, va_up I 62 (xfil c (fun j => nI (xfa N o wi j)) (I 62)), L, xP b)) rfl rfl ?_
    refine xw_go xb_122 1 (f1 := (if (nI (N 0 * N 1)) ≤ (nI c) then 87 else 10, [.ref 60, .int (nI o), .int (nI wi), .int (nI c), .float 0], [])) (h1 := (xS b, va_up I 62 (xfil c (fun j => nI (xfa N o wi j)) (I 62)), L, xP b)) rfl trivial ?_
    refine xw_if (fun c_7 => ?_) (fun c_7 => ?_)
    · skip
      exfalso
      simp (disch := omega) only [nI_leI, nI_ltI] at c_7
      omega
    · skip
      refine xw_go xb_122 7 (f1 := (20, [.ref 60, .int (nI o), .int (nI wi), .int (nI c), .int 0], [])) (h1 := (xS b, xm_up (va_up I 62 (xfil c (fun j => nI (xfa N o wi j)) (I 62))) 62 (nI c).toNatClampNeg 0, L, xP b)) rfl ⟨rfl, (xn_ar (n := c) (N := 64) rfl (by omega) (by decide)), trivial⟩ ?_
      refine xw_at (f' := (20, [.ref 60, .int (nI o), .int (nI wi), .int (nI c), .int 0], [])) (h' := (xS b, va_up I 62 (va_up (xfil c (fun j => nI (xfa N o wi j)) (I 62)) c (nI (xsum (fun p => if o.testBit p then xth N p (c / N 1) (c % N 1 - wi) else 0) 0))), L, xP b)) rfl (show (xS b, xm_up (va_up I 62 (xfil c (fun j => nI (xfa N o wi j)) (I 62))) 62 (nI c).toNatClampNeg 0, L, xP b) = (xS b, va_up I 62 (va_up (xfil c (fun j => nI (xfa N o wi j)) (I 62)) c (nI (xsum (fun p => if o.testBit p then xth N p (c / N 1) (c % N 1 - wi) else 0) 0))), L, xP b) from ?_) ?_
      · rw [xn_cl (by omega), xup_s]
        rfl
      have hcm := Nat.mod_lt c hN1
      by_cases hw : wi ≤ c % N 1
      · refine xw_loop (N 2) (fun p => (20, [.ref 60, .int (nI o), .int (nI wi), .int (nI c), .int (nI p)], [])) (fun p => (xS b, va_up I 62 (va_up (xfil c (fun j => nI (xfa N o wi j)) (I 62)) c (nI (xsum (fun p => if o.testBit p then xth N p (c / N 1) (c % N 1 - wi) else 0) p))), L, xP b)) (fun p hp ih2 => ?_) ?_ 0 (Nat.zero_le _)
        · have hp5 : p < 5 := by omega
          have hcd := xce_le hO
          have e1 : (c - wi) / N 1 = c / N 1 ∧ (c - wi) % N 1 = c % N 1 - wi := by
            have h3 := Nat.div_add_mod c (N 1)
            have h4 := Nat.mod_lt c hN1
            have h5 : c - wi = (c / N 1) * N 1 + (c % N 1 - wi) := by rw [Nat.mul_comm]; omega
            rw [h5]
            exact xrow_div (by omega)
          refine xw_go xb_122 5 (f1 := (28, [.ref 60, .int (nI o), .int (nI wi), .int (nI c), .int (nI p)], [.int ((va_up I 62 (va_up (xfil c (fun j => nI (xfa N o wi j)) (I 62)) c (nI (xsum (fun p => if o.testBit p then xth N p (c / N 1) (c % N 1 - wi) else 0) p)))) 61 (2 : Int32).toNatClampNeg), .int (nI p)])) (h1 := (xS b, va_up I 62 (va_up (xfil c (fun j => nI (xfa N o wi j)) (I 62)) c (nI (xsum (fun p => if o.testBit p then xth N p (c / N 1) (c % N 1 - wi) else 0) p))), L, xP b)) rfl ⟨rfl, (xn_ar (n := 2) (N := 159) rfl (by decide) (by decide)), trivial⟩ ?_
          refine xw_cong (l' := [.ref 60, .int (nI o), .int (nI wi), .int (nI c), .int (nI p)]) (st' := [.int (nI (N 2)), .int (nI p)]) (h' := (xS b, va_up I 62 (va_up (xfil c (fun j => nI (xfa N o wi j)) (I 62)) c (nI (xsum (fun p => if o.testBit p then xth N p (c / N 1) (c % N 1 - wi) else 0) p))), L, xP b)) rfl (show ([.int ((va_up I 62 (va_up (xfil c (fun j => nI (xfa N o wi j)) (I 62)) c (nI (xsum (fun p => if o.testBit p then xth N p (c / N 1) (c % N 1 - wi) else 0) p)))) 61 (2 : Int32).toNatClampNeg), .int (nI p)] : List Value) = [.int (nI (N 2)), .int (nI p)] from ?_) rfl ?_
          · show ([.int (I 61 (2 : Int32).toNatClampNeg), _] : List Value) = _
            rw [show (2 : Int32).toNatClampNeg = 2 from rfl, hM 2 (by decide)]
          refine xw_go xb_122 1 (f1 := (if (nI (N 2)) ≤ (nI p) then 81 else 31, [.ref 60, .int (nI o), .int (nI wi), .int (nI c), .int (nI p)], [])) (h1 := (xS b, va_up I 62 (va_up (xfil c (fun j => nI (xfa N o wi j)) (I 62)) c (nI (xsum (fun p => if o.testBit p then xth N p (c / N 1) (c % N 1 - wi) else 0) p))), L, xP b)) rfl trivial ?_
          refine xw_if (fun c_28 => ?_) (fun c_28 => ?_)
          · skip
            exfalso
            simp (disch := omega) only [nI_leI] at c_28
            omega
          · skip
            refine xw_go xb_122 6 (f1 := (39, [.ref 60, .int (nI o), .int (nI wi), .int (nI c), .int (nI p)], [.int ((nI c) - (nI c) / ((va_up I 62 (va_up (xfil c (fun j => nI (xfa N o wi j)) (I 62)) c (nI (xsum (fun p => if o.testBit p then xth N p (c / N 1) (c % N 1 - wi) else 0) p)))) 61 (1 : Int32).toNatClampNeg) * ((va_up I 62 (va_up (xfil c (fun j => nI (xfa N o wi j)) (I 62)) c (nI (xsum (fun p => if o.testBit p then xth N p (c / N 1) (c % N 1 - wi) else 0) p)))) 61 (1 : Int32).toNatClampNeg))])) (h1 := (xS b, va_up I 62 (va_up (xfil c (fun j => nI (xfa N o wi j)) (I 62)) c (nI (xsum (fun p => if o.testBit p then xth N p (c / N 1) (c % N 1 - wi) else 0) p))), L, xP b)) rfl ⟨rfl, (xn_ar (n := 1) (N := 159) rfl (by decide) (by decide)), (by show ¬ I 61 (1 : Int32).toNatClampNeg = 0; rw [show (1 : Int32).toNatClampNeg = 1 from rfl, hM 1 (by decide)]; exact xn_ne (by omega) (by omega)), trivial⟩ ?_
            refine xw_cong (l' := [.ref 60, .int (nI o), .int (nI wi), .int (nI c), .int (nI p)]) (st' := [.int (nI (c % N 1))]) (h' := (xS b, va_up I 62 (va_up (xfil c (fun j => nI (xfa N o wi j)) (I 62)) c (nI (xsum (fun p => if o.testBit p then xth N p (c / N 1) (c % N 1 - wi) else 0) p))), L, xP b)) rfl (show ([.int ((nI c) - (nI c) / ((va_up I 62 (va_up (xfil c (fun j => nI (xfa N o wi j)) (I 62)) c (nI (xsum (fun p => if o.testBit p then xth N p (c / N 1) (c % N 1 - wi) else 0) p)))) 61 (1 : Int32).toNatClampNeg) * ((va_up I 62 (va_up (xfil c (fun j => nI (xfa N o wi j)) (I 62)) c (nI (xsum (fun p => if o.testBit p then xth N p (c / N 1) (c % N 1 - wi) else 0) p)))) 61 (1 : Int32).toNatClampNeg))] : List Value) = [.int (nI (c % N 1))] from ?_) rfl ?_
            · show ([.int (nI c - nI c / I 61 (1 : Int32).toNatClampNeg * I 61 (1 : Int32).toNatClampNeg)] : List Value) = _
              rw [show (1 : Int32).toNatClampNeg = 1 from rfl, hM 1 (by decide), xn_rem (by omega) (by omega) (by omega)]
            refine xw_go xb_122 2 (f1 := (if (nI (c % N 1)) < (nI wi) then 81 else 43, [.ref 60, .int (nI o), .int (nI wi), .int (nI c), .int (nI p)], [])) (h1 := (xS b, va_up I 62 (va_up (xfil c (fun j => nI (xfa N o wi j)) (I 62)) c (nI (xsum (fun p => if o.testBit p then xth N p (c / N 1) (c % N 1 - wi) else 0) p))), L, xP b)) rfl trivial ?_
            refine xw_if (fun c_40 => ?_) (fun c_40 => ?_)
            · skip
              exfalso
              simp (disch := omega) only [nI_ltI] at c_40
              omega
            · skip
              refine xw_go xb_122 12 (f1 := (if ¬ (((nI o) >>> ((nI p) &&& 31)) &&& 1) = 1 then 72 else 60, [.ref 60, .int (nI o), .int (nI wi), .int (nI c), .int (nI p)], [.int ((va_up I 62 (va_up (xfil c (fun j => nI (xfa N o wi j)) (I 62)) c (nI (xsum (fun p => if o.testBit p then xth N p (c / N 1) (c % N 1 - wi) else 0) p)))) 62 (nI c).toNatClampNeg), .int (nI c), .ref 62])) (h1 := (xS b, va_up I 62 (va_up (xfil c (fun j => nI (xfa N o wi j)) (I 62)) c (nI (xsum (fun p => if o.testBit p then xth N p (c / N 1) (c % N 1 - wi) else 0) p))), L, xP b)) rfl ⟨rfl, (xn_ar (n := c) (N := 64) rfl (by omega) (by decide)), trivial⟩ ?_
              refine xw_if (fun c_57 => ?_) (fun c_57 => ?_)
              · skip
                refine xw_go xb_122 5 (f1 := (20, [.ref 60, .int (nI o), .int (nI wi), .int (nI c), .int ((nI p) + 1)], [])) (h1 := (xS b, xm_up (va_up I 62 (va_up (xfil c (fun j => nI (xfa N o wi j)) (I 62)) c (nI (xsum (fun p => if o.testBit p then xth N p (c / N 1) (c % N 1 - wi) else 0) p)))) 62 (nI c).toNatClampNeg (((va_up I 62 (va_up (xfil c (fun j => nI (xfa N o wi j)) (I 62)) c (nI (xsum (fun p => if o.testBit p then xth N p (c / N 1) (c % N 1 - wi) else 0) p)))) 62 (nI c).toNatClampNeg) + 0), L, xP b)) rfl ⟨(xn_ar (n := c) (N := 64) rfl (by omega) (by decide)), trivial⟩ ?_
                refine xw_cong ?_ rfl ?_ ih2
                · rw [nI_1 p]
                · rw [xn_cl (by omega)]
                  refine congrArg (fun X => (xS b, X, L, xP b)) ?_
                  rw [xup_s]
                  refine congrArg (fun X => va_up I 62 X) ?_
                  have e3 : va_up I 62 (va_up (xfil c (fun j => nI (xfa N o wi j)) (I 62)) c (nI (xsum (fun p => if o.testBit p then xth N p (c / N 1) (c % N 1 - wi) else 0) p))) 62 c = nI (xsum (fun p => if o.testBit p then xth N p (c / N 1) (c % N 1 - wi) else 0) p) := by simp [va_up]
                  rw [e3]
                  funext j
                  by_cases hj : j = c
                  · subst hj
                    simp only [va_up, if_true, xsum]
                    have hbit := xbit5 o bo p hp5
                    by_cases ht : o.testBit p = true
                    · first | exact absurd (hbit.mpr ht) c_57 | (rw [if_pos ht, nI_add, e1.1, e1.2]; done) | (rw [if_pos ht, nI_add]; done)
                    · first | exact absurd (fun z => ht (hbit.mp z)) c_57 | (rw [if_neg ht]; exact Int32.add_zero _)
                  · simp only [va_up, hj, if_false]
              · skip
                refine xw_go xb_122 5 (f1 := (66, [.ref 60, .int (nI o), .int (nI wi), .int (nI c), .int (nI p)], [.int ((nI c) - (nI wi)), .int (nI p), .ref 60, .int ((va_up I 62 (va_up (xfil c (fun j => nI (xfa N o wi j)) (I 62)) c (nI (xsum (fun p => if o.testBit p then xth N p (c / N 1) (c % N 1 - wi) else 0) p)))) 62 (nI c).toNatClampNeg), .int (nI c), .ref 62])) (h1 := (xS b, va_up I 62 (va_up (xfil c (fun j => nI (xfa N o wi j)) (I 62)) c (nI (xsum (fun p => if o.testBit p then xth N p (c / N 1) (c % N 1 - wi) else 0) p))), L, xP b)) rfl trivial ?_
                refine xw_call xb_122 rfl rfl rfl rfl rfl (Or.inr ⟨_, _, rfl, rfl⟩) (m_throwsOn (I := (va_up I 62 (va_up (xfil c (fun j => nI (xfa N o wi j)) (I 62)) c (nI (xsum (fun p => if o.testBit p then xth N p (c / N 1) (c % N 1 - wi) else 0) p))))) (fun k hk => hM k hk) hO (p := p) (c := c - wi) hp (by show c - wi < N 0 * N 1; omega) rfl (by rw [xn_sub (by have := Nat.mod_le c (N 1); omega)])) ?_
                rintro _ _ ⟨rfl, rfl⟩
                refine xw_at (f' := (69, [.ref 60, .int (nI o), .int (nI wi), .int (nI c), .int (nI p)], [.int (nI (xth N p ((c - wi) / N 1) ((c - wi) % N 1))), .int ((va_up I 62 (va_up (xfil c (fun j => nI (xfa N o wi j)) (I 62)) c (nI (xsum (fun p => if o.testBit p then xth N p (c / N 1) (c % N 1 - wi) else 0) p)))) 62 (nI c).toNatClampNeg), .int (nI c), .ref 62])) (h' := (xS b, va_up I 62 (va_up (xfil c (fun j => nI (xfa N o wi j)) (I 62)) c (nI (xsum (fun p => if o.testBit p then xth N p (c / N 1) (c % N 1 - wi) else 0) p))), L, xP b)) rfl rfl ?_
                refine xw_go xb_122 5 (f1 := (20, [.ref 60, .int (nI o), .int (nI wi), .int (nI c), .int ((nI p) + 1)], [])) (h1 := (xS b, xm_up (va_up I 62 (va_up (xfil c (fun j => nI (xfa N o wi j)) (I 62)) c (nI (xsum (fun p => if o.testBit p then xth N p (c / N 1) (c % N 1 - wi) else 0) p)))) 62 (nI c).toNatClampNeg (((va_up I 62 (va_up (xfil c (fun j => nI (xfa N o wi j)) (I 62)) c (nI (xsum (fun p => if o.testBit p then xth N p (c / N 1) (c % N 1 - wi) else 0) p)))) 62 (nI c).toNatClampNeg) + (nI (xth N p ((c - wi) / N 1) ((c - wi) % N 1)))), L, xP b)) rfl ⟨(xn_ar (n := c) (N := 64) rfl (by omega) (by decide)), trivial⟩ ?_
                refine xw_cong ?_ rfl ?_ ih2
                · rw [nI_1 p]
                · rw [xn_cl (by omega)]
                  refine congrArg (fun X => (xS b, X, L, xP b)) ?_
                  rw [xup_s]
                  refine congrArg (fun X => va_up I 62 X) ?_
                  have e3 : va_up I 62 (va_up (xfil c (fun j => nI (xfa N o wi j)) (I 62)) c (nI (xsum (fun p => if o.testBit p then xth N p (c / N 1) (c % N 1 - wi) else 0) p))) 62 c = nI (xsum (fun p => if o.testBit p then xth N p (c / N 1) (c % N 1 - wi) else 0) p) := by simp [va_up]
                  rw [e3]
                  funext j
                  by_cases hj : j = c
                  · subst hj
                    simp only [va_up, if_true, xsum]
                    have hbit := xbit5 o bo p hp5
                    by_cases ht : o.testBit p = true
                    · first | exact absurd (hbit.mpr ht) c_57 | (rw [if_pos ht, nI_add, e1.1, e1.2]; done) | (rw [if_pos ht, nI_add]; done)
                    · first | exact absurd (fun z => ht (hbit.mp z)) c_57 | (rw [if_neg ht]; exact Int32.add_zero _)
                  · simp only [va_up, hj, if_false]
        · skip
          refine xw_go xb_122 5 (f1 := (28, [.ref 60, .int (nI o), .int (nI wi), .int (nI c), .int (nI (N 2))], [.int ((va_up I 62 (va_up (xfil c (fun j => nI (xfa N o wi j)) (I 62)) c (nI (xsum (fun p => if o.testBit p then xth N p (c / N 1) (c % N 1 - wi) else 0) (N 2))))) 61 (2 : Int32).toNatClampNeg), .int (nI (N 2))])) (h1 := (xS b, va_up I 62 (va_up (xfil c (fun j => nI (xfa N o wi j)) (I 62)) c (nI (xsum (fun p => if o.testBit p then xth N p (c / N 1) (c % N 1 - wi) else 0) (N 2)))), L, xP b)) rfl ⟨rfl, (xn_ar (n := 2) (N := 159) rfl (by decide) (by decide)), trivial⟩ ?_
          refine xw_cong (l' := [.ref 60, .int (nI o), .int (nI wi), .int (nI c), .int (nI (N 2))]) (st' := [.int (nI (N 2)), .int (nI (N 2))]) (h' := (xS b, va_up I 62 (va_up (xfil c (fun j => nI (xfa N o wi j)) (I 62)) c (nI (xsum (fun p => if o.testBit p then xth N p (c / N 1) (c % N 1 - wi) else 0) (N 2)))), L, xP b)) rfl (show ([.int ((va_up I 62 (va_up (xfil c (fun j => nI (xfa N o wi j)) (I 62)) c (nI (xsum (fun p => if o.testBit p then xth N p (c / N 1) (c % N 1 - wi) else 0) (N 2))))) 61 (2 : Int32).toNatClampNeg), .int (nI (N 2))] : List Value) = [.int (nI (N 2)), .int (nI (N 2))] from ?_) rfl ?_
          · show ([.int (I 61 (2 : Int32).toNatClampNeg), _] : List Value) = _
            rw [show (2 : Int32).toNatClampNeg = 2 from rfl, hM 2 (by decide)]
          refine xw_go xb_122 1 (f1 := (if (nI (N 2)) ≤ (nI (N 2)) then 81 else 31, [.ref 60, .int (nI o), .int (nI wi), .int (nI c), .int (nI (N 2))], [])) (h1 := (xS b, va_up I 62 (va_up (xfil c (fun j => nI (xfa N o wi j)) (I 62)) c (nI (xsum (fun p => if o.testBit p then xth N p (c / N 1) (c % N 1 - wi) else 0) (N 2)))), L, xP b)) rfl trivial ?_
          refine xw_if (fun c_28 => ?_) (fun c_28 => ?_)
          · skip
            refine xw_go xb_122 2 (f1 := (2, [.ref 60, .int (nI o), .int (nI wi), .int ((nI c) + 1), .int (nI (N 2))], [])) (h1 := (xS b, va_up I 62 (va_up (xfil c (fun j => nI (xfa N o wi j)) (I 62)) c (nI (xsum (fun p => if o.testBit p then xth N p (c / N 1) (c % N 1 - wi) else 0) (N 2)))), L, xP b)) rfl trivial ?_
            refine xw_cong ?_ rfl ?_ (xw_fg (l0 := [.ref 60, .int (nI o), .int (nI wi), .int (nI (c + 1)), .float 0]) ⟨Or.inr rfl, Or.inr rfl, Or.inr rfl, Or.inr rfl, Or.inl rfl, trivial⟩ ih) (l' := [.ref 60, .int (nI o), .int (nI wi), .int (nI (c + 1)), .int (nI (N 2))])
            · rw [nI_1 c]
            · refine congrArg (fun X => (xS b, va_up I 62 X, L, xP b)) ?_
              funext j
              by_cases hj : j = c
              · subst hj
                simp only [va_up, if_true, xfil]
                rw [if_pos (by omega)]
                congr 1
                unfold xfa xfaP
                rw [if_pos hw]
              · simp only [va_up, hj, if_false, xfil]
                by_cases h1 : j < c
                · rw [if_pos h1, if_pos (by omega)]
                · rw [if_neg h1, if_neg (by omega)]
          · skip
            exfalso
            simp (disch := omega) only [nI_leI, nI_ltI] at c_28
            omega
      · refine xw_at (f' := (20, [.ref 60, .int (nI o), .int (nI wi), .int (nI c), .int (nI 0)], [])) (h' := (xS b, va_up I 62 (va_up (xfil c (fun j => nI (xfa N o wi j)) (I 62)) c (nI (xsum (fun p => if o.testBit p then xth N p (c / N 1) (c % N 1 - wi) else 0) 0))), L, xP b)) rfl rfl ?_
        refine xw_go xb_122 5 (f1 := (28, [.ref 60, .int (nI o), .int (nI wi), .int (nI c), .int (nI 0)], [.int ((va_up I 62 (va_up (xfil c (fun j => nI (xfa N o wi j)) (I 62)) c (nI (xsum (fun p => if o.testBit p then xth N p (c / N 1) (c % N 1 - wi) else 0) 0)))) 61 (2 : Int32).toNatClampNeg), .int (nI 0)])) (h1 := (xS b, va_up I 62 (va_up (xfil c (fun j => nI (xfa N o wi j)) (I 62)) c (nI (xsum (fun p => if o.testBit p then xth N p (c / N 1) (c % N 1 - wi) else 0) 0))), L, xP b)) rfl ⟨rfl, (xn_ar (n := 2) (N := 159) rfl (by decide) (by decide)), trivial⟩ ?_
        refine xw_cong (l' := [.ref 60, .int (nI o), .int (nI wi), .int (nI c), .int (nI 0)]) (st' := [.int (nI (N 2)), .int (nI 0)]) (h' := (xS b, va_up I 62 (va_up (xfil c (fun j => nI (xfa N o wi j)) (I 62)) c (nI (xsum (fun p => if o.testBit p then xth N p (c / N 1) (c % N 1 - wi) else 0) 0))), L, xP b)) rfl (show ([.int ((va_up I 62 (va_up (xfil c (fun j => nI (xfa N o wi j)) (I 62)) c (nI (xsum (fun p => if o.testBit p then xth N p (c / N 1) (c % N 1 - wi) else 0) 0)))) 61 (2 : Int32).toNatClampNeg), .int (nI 0)] : List Value) = [.int (nI (N 2)), .int (nI 0)] from ?_) rfl ?_
        · show ([.int (I 61 (2 : Int32).toNatClampNeg), _] : List Value) = _
          rw [show (2 : Int32).toNatClampNeg = 2 from rfl, hM 2 (by decide)]
        refine xw_go xb_122 1 (f1 := (if (nI (N 2)) ≤ (nI 0) then 81 else 31, [.ref 60, .int (nI o), .int (nI wi), .int (nI c), .int (nI 0)], [])) (h1 := (xS b, va_up I 62 (va_up (xfil c (fun j => nI (xfa N o wi j)) (I 62)) c (nI (xsum (fun p => if o.testBit p then xth N p (c / N 1) (c % N 1 - wi) else 0) 0))), L, xP b)) rfl trivial ?_
        refine xw_if (fun c_28 => ?_) (fun c_28 => ?_)
        · skip
          refine xw_go xb_122 2 (f1 := (2, [.ref 60, .int (nI o), .int (nI wi), .int ((nI c) + 1), .int (nI 0)], [])) (h1 := (xS b, va_up I 62 (va_up (xfil c (fun j => nI (xfa N o wi j)) (I 62)) c (nI (xsum (fun p => if o.testBit p then xth N p (c / N 1) (c % N 1 - wi) else 0) 0))), L, xP b)) rfl trivial ?_
          refine xw_cong ?_ rfl ?_ (xw_fg (l0 := [.ref 60, .int (nI o), .int (nI wi), .int (nI (c + 1)), .float 0]) ⟨Or.inr rfl, Or.inr rfl, Or.inr rfl, Or.inr rfl, Or.inl rfl, trivial⟩ ih) (l' := [.ref 60, .int (nI o), .int (nI wi), .int (nI (c + 1)), .int (nI 0)])
          · rw [nI_1 c]
          · refine congrArg (fun X => (xS b, va_up I 62 X, L, xP b)) ?_
            funext j
            by_cases hj : j = c
            · subst hj
              simp only [va_up, if_true, xfil]
              rw [if_pos (by omega)]
              congr 1
              unfold xfa xfaP
              rw [if_neg hw]
              rfl
            · simp only [va_up, hj, if_false, xfil]
              by_cases h1 : j < c
              · rw [if_pos h1, if_pos (by omega)]
              · rw [if_neg h1, if_neg (by omega)]
        · skip
          refine xw_go xb_122 6 (f1 := (39, [.ref 60, .int (nI o), .int (nI wi), .int (nI c), .int (nI 0)], [.int ((nI c) - (nI c) / ((va_up I 62 (va_up (xfil c (fun j => nI (xfa N o wi j)) (I 62)) c (nI (xsum (fun p => if o.testBit p then xth N p (c / N 1) (c % N 1 - wi) else 0) 0)))) 61 (1 : Int32).toNatClampNeg) * ((va_up I 62 (va_up (xfil c (fun j => nI (xfa N o wi j)) (I 62)) c (nI (xsum (fun p => if o.testBit p then xth N p (c / N 1) (c % N 1 - wi) else 0) 0)))) 61 (1 : Int32).toNatClampNeg))])) (h1 := (xS b, va_up I 62 (va_up (xfil c (fun j => nI (xfa N o wi j)) (I 62)) c (nI (xsum (fun p => if o.testBit p then xth N p (c / N 1) (c % N 1 - wi) else 0) 0))), L, xP b)) rfl ⟨rfl, (xn_ar (n := 1) (N := 159) rfl (by decide) (by decide)), (by show ¬ I 61 (1 : Int32).toNatClampNeg = 0; rw [show (1 : Int32).toNatClampNeg = 1 from rfl, hM 1 (by decide)]; exact xn_ne (by omega) (by omega)), trivial⟩ ?_
          refine xw_cong (l' := [.ref 60, .int (nI o), .int (nI wi), .int (nI c), .int (nI 0)]) (st' := [.int (nI (c % N 1))]) (h' := (xS b, va_up I 62 (va_up (xfil c (fun j => nI (xfa N o wi j)) (I 62)) c (nI (xsum (fun p => if o.testBit p then xth N p (c / N 1) (c % N 1 - wi) else 0) 0))), L, xP b)) rfl (show ([.int ((nI c) - (nI c) / ((va_up I 62 (va_up (xfil c (fun j => nI (xfa N o wi j)) (I 62)) c (nI (xsum (fun p => if o.testBit p then xth N p (c / N 1) (c % N 1 - wi) else 0) 0)))) 61 (1 : Int32).toNatClampNeg) * ((va_up I 62 (va_up (xfil c (fun j => nI (xfa N o wi j)) (I 62)) c (nI (xsum (fun p => if o.testBit p then xth N p (c / N 1) (c % N 1 - wi) else 0) 0)))) 61 (1 : Int32).toNatClampNeg))] : List Value) = [.int (nI (c % N 1))] from ?_) rfl ?_
          · show ([.int (nI c - nI c / I 61 (1 : Int32).toNatClampNeg * I 61 (1 : Int32).toNatClampNeg)] : List Value) = _
            rw [show (1 : Int32).toNatClampNeg = 1 from rfl, hM 1 (by decide), xn_rem (by omega) (by omega) (by omega)]
          refine xw_go xb_122 2 (f1 := (if (nI (c % N 1)) < (nI wi) then 81 else 43, [.ref 60, .int (nI o), .int (nI wi), .int (nI c), .int (nI 0)], [])) (h1 := (xS b, va_up I 62 (va_up (xfil c (fun j => nI (xfa N o wi j)) (I 62)) c (nI (xsum (fun p => if o.testBit p then xth N p (c / N 1) (c % N 1 - wi) else 0) 0))), L, xP b)) rfl trivial ?_
          refine xw_if (fun c_40 => ?_) (fun c_40 => ?_)
          · skip
            refine xw_go xb_122 2 (f1 := (2, [.ref 60, .int (nI o), .int (nI wi), .int ((nI c) + 1), .int (nI 0)], [])) (h1 := (xS b, va_up I 62 (va_up (xfil c (fun j => nI (xfa N o wi j)) (I 62)) c (nI (xsum (fun p => if o.testBit p then xth N p (c / N 1) (c % N 1 - wi) else 0) 0))), L, xP b)) rfl trivial ?_
            refine xw_cong ?_ rfl ?_ (xw_fg (l0 := [.ref 60, .int (nI o), .int (nI wi), .int (nI (c + 1)), .float 0]) ⟨Or.inr rfl, Or.inr rfl, Or.inr rfl, Or.inr rfl, Or.inl rfl, trivial⟩ ih) (l' := [.ref 60, .int (nI o), .int (nI wi), .int (nI (c + 1)), .int (nI 0)])
            · rw [nI_1 c]
            · refine congrArg (fun X => (xS b, va_up I 62 X, L, xP b)) ?_
              funext j
              by_cases hj : j = c
              · subst hj
                simp only [va_up, if_true, xfil]
                rw [if_pos (by omega)]
                congr 1
                unfold xfa xfaP
                rw [if_neg hw]
                rfl
              · simp only [va_up, hj, if_false, xfil]
                by_cases h1 : j < c
                · rw [if_pos h1, if_pos (by omega)]
                · rw [if_neg h1, if_neg (by omega)]
          · skip
            exfalso
            simp (disch := omega) only [nI_leI, nI_ltI] at c_40
            omega
  · skip
    refine xw_go xb_122 2 (f1 := (4, [.ref 60, .int (nI o), .int (nI wi), .int (nI (N 0 * N 1)), .float 0], [.ref 60, .int (nI (N 0 * N 1))])) (h1 := (xS b, va_up I 62 (xfil (N 0 * N 1) (fun j => nI (xfa N o wi j)) (I 62)), L, xP b)) rfl trivial ?_
    refine xw_call xb_122 rfl rfl rfl rfl rfl (Or.inr ⟨_, _, rfl, rfl⟩) (m_cells (I := (va_up I 62 (xfil (N 0 * N 1) (fun j => nI (xfa N o wi j)) (I 62)))) (fun k hk => hM k hk)) ?_
    rintro _ _ ⟨rfl, rfl⟩
    refine xw_at (f' := (7, [.ref 60, .int (nI o), .int (nI wi), .int (nI (N 0 * N 1)), .float 0], [.int (nI (N 0 * N 1)), .int (nI (N 0 * N 1))])) (h' := (xS b, va_up I 62 (xfil (N 0 * N 1) (fun j => nI (xfa N o wi j)) (I 62)), L, xP b)) rfl rfl ?_
    refine xw_go xb_122 1 (f1 := (if (nI (N 0 * N 1)) ≤ (nI (N 0 * N 1)) then 87 else 10, [.ref 60, .int (nI o), .int (nI wi), .int (nI (N 0 * N 1)), .float 0], [])) (h1 := (xS b, va_up I 62 (xfil (N 0 * N 1) (fun j => nI (xfa N o wi j)) (I 62)), L, xP b)) rfl trivial ?_
    refine xw_if (fun c_7 => ?_) (fun c_7 => ?_)
    · skip
      refine xw_ret xb_122 rfl rfl trivial ?_
      refine ⟨rfl, _, rfl, fun j hj => ?_⟩
      simp only [xfil]
      rw [if_pos (show j < N 0 * N 1 from hj)]
    · skip
      exfalso
      simp (disch := omega) only [nI_leI, nI_ltI] at c_7
      omega

