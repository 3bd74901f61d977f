/-! ===== what is kept to be undone; undo ===== -/
/-- a step, as it is kept -/
def xsn (N : Nat → Nat) (i : Nat) : Nat := if i < 64 then N (95 + i) else if i < 69 then N (12 + 4 * (i - 64)) else if i = 69 then N 9 else if i = 70 then N 4 else N 10
/-- one step more is kept -/
def xpsh (N : Nat → Nat) (u : Nat) (U : Nat → Nat → Nat) : Nat → Nat → Nat := fun j i => if j = min u 7 then xsn N i else U (j + (u - 7)) i
theorem xpsh_uk {N : Nat → Nat} {u : Nat} {U : Nat → Nat → Nat} (hK : xUK N u U) : xUK N (min 8 (u + 1)) (xpsh N u U) := by
  obtain ⟨hO, h4, hu, hj⟩ := hK
  have hb := hO.1
  refine ⟨hO, h4, by omega, fun j hj1 => ?_⟩
  unfold xpsh
  by_cases h : j = min u 7
  · simp only [if_pos h]
    refine ⟨fun i hi => ?_, fun i hi => ?_, ?_, ?_, ?_⟩
    · unfold xsn
      rw [if_pos hi]
      exact hO.2.2.1 i hi
    · unfold xsn
      rw [if_neg (by omega), if_pos (by omega), show 64 + i - 64 = i by omega]
      exact (hO.2.2.2 i hi).2.1
    · show N 9 ≤ 999999; omega
    · show N 4 ≤ 9999; omega
    · show N 10 < 2 ^ 31; omega
  · simp only [if_neg h]
    exact hj _ (by omega)
/-- the class keeps a step -/
theorem c_rem {d : Nat} {b : Bool} {I : Nat → Nat → Int32} {L : Nat → Nat → Int64} {N : Nat → Nat} {u : Nat} {U : Nat → Nat → Nat} (hP : xPL N u U 1 I) (hK : xUK N u U) : xm_Z (d + 2) 59 [.ref 1] (xS b, I, L, xP b) (fun rz hz => rz = none ∧ ∃ I', hz = (xS b, I', L, xP b) ∧ (∀ a, a < 5 ∨ 15 ≤ a → I' a = I a) ∧ xPL N (min 8 (u + 1)) (xpsh N u U) 1 I') := by
  obtain ⟨hN, nx, hn, h1, h2, h3⟩ := hP
  have hb := hK.1.1
  have hu := hK.2.2.1
  refine xw_Z (c_remember h1 h2 hu hn) ?_
  rintro _ _ ⟨rfl, I', rfl, hf, g1, g2, g3, g4, g5, g6, g7⟩
  have hq : ∀ a, a ≠ 5 → a ≠ 7 + nx → I' a = I a := fun a ha hb => hf a (by simp only [List.mem_cons, List.not_mem_nil, or_false, not_or]; exact ⟨ha, hb⟩)
  refine ⟨rfl, I', rfl, fun a ha => hq a (by omega) (by omega), xPN_fr (by omega) hN fun a ha => hq a (by omega) (by omega), (nx + 1) % 8, by omega, g1, g2, fun j hj i hi hr => ?_⟩
  unfold xpsh
  by_cases h : j = min u 7
  · rw [if_pos h, show 1 + 6 + ((nx + 1) % 8 + 8 - min 8 (u + 1) + j) % 8 = 7 + nx by omega]
    unfold xsn
    by_cases i1 : i < 64
    · rw [if_pos i1, g3 i i1]
      exact hN.2.2.1 i i1
    · rw [if_neg i1]
      by_cases i2 : i < 69
      · rw [if_pos i2]
        have := g4 (i - 64) (by omega)
        rw [show 64 + (i - 64) = i by omega] at this
        rw [this]
        have q := hN.2.2.2 (i - 64) (by omega) 1 (by decide)
        rw [show 11 + 4 * (i - 64) + 1 = 12 + 4 * (i - 64) by omega] at q
        exact q
      · rw [if_neg i2]
        by_cases i3 : i = 69
        · subst i3
          rw [if_pos rfl, g5]
          exact hN.1.2.2.2.2.2.2.2.2.2.1
        · rw [if_neg i3]
          by_cases i4 : i = 70
          · subst i4
            rw [if_pos rfl, g6]
            exact hN.1.2.2.2.2.1
          · rw [if_neg i4, show i = 71 by omega, g7]
            exact hN.1.2.2.2.2.2.2.2.2.2.2
  · rw [if_neg h, hq _ (by omega) (by omega), ← h3 (j + (u - 7)) (by omega) i hi hr]
    congr 1
    omega
/-- the row that is kept, up to a number -/
def xnt (N : Nat → Nat) (v : Nat) (g : Nat → Int32) (i : Nat) : Nat → Int32 := fun m => if 72 * v ≤ m ∧ m < 72 * v + i then nI (xsn N (m - 72 * v)) else g m
theorem xnt_0 (N : Nat → Nat) (v : Nat) (g : Nat → Int32) : xnt N v g 0 = g := by
  funext m
  unfold xnt
  rw [if_neg (by omega)]
theorem xnt_up {N : Nat → Nat} {v : Nat} {g : Nat → Int32} {i : Nat} {x : Int32} (hx : x = nI (xsn N i)) : va_up (xnt N v g i) (72 * v + i) x = xnt N v g (i + 1) := by
  subst hx
  funext m
  unfold xnt
  by_cases h : m = 72 * v + i
  · subst h
    simp only [va_up, if_true]
    rw [if_pos (by omega), show 72 * v + i - 72 * v = i by omega]
  · simp only [va_up, h, if_false]
    by_cases h1 : 72 * v ≤ m ∧ m < 72 * v + i
    · rw [if_pos h1, if_pos (by omega)]
    · rw [if_neg h1, if_neg (by omega)]
set_option maxHeartbeats 4000000 in
theorem m_notesT {d : Nat} {b : Bool} {I : Nat → Nat → Int32} {L : Nat → Nat → Int64} {N : Nat → Nat} (hM : xMN N I) {v : Nat} (hv : v ≤ 7) (hu : I 60 10 = nI v) {Q : Option Value → xm_H → Prop} {l1 : Value} (hl : l1 = .float 0 ∨ ∃ x, l1 = .int x) (kk : ∀ I', I' = xm_up (va_up I 67 (xnt N v (I 67) 72)) 60 10 (nI (v + 1)) → Q none (xS b, I', L, xP b)) : xm_W (d + 1) 142 (46, [.ref 60, l1, .float 0], []) (xS b, I, L, xP b) Q := by
  refine xw_fg (l0 := [.ref 60, .float 0, .float 0]) ⟨Or.inr rfl, Or.inl rfl, Or.inr rfl, trivial⟩ ?_
  refine xw_go xb_142 5 (f1 := (54, [.ref 60, .int (72 * (I 60 10)), .float 0], [])) (h1 := (xS b, I, L, xP b)) rfl ⟨rfl, trivial⟩ ?_
  refine xw_cong (l' := [.ref 60, .int (nI (72 * v)), .float 0]) (st' := []) (h' := (xS b, I, L, xP b)) (show ([.ref 60, .int (72 * (I 60 10)), .float 0] : List Value) = [.ref 60, .int (nI (72 * v)), .float 0] from ?_) rfl rfl ?_
  · rw [hu, xl_72, pk_mul]
  refine xw_go xb_142 2 (f1 := (56, [.ref 60, .int (nI (72 * v)), .int 0], [])) (h1 := (xS b, I, L, xP b)) rfl trivial ?_
  refine xw_at (f' := (56, [.ref 60, .int (nI (72 * v)), .int (nI 0)], [])) (h' := (xS b, va_up I 67 (xnt N v (I 67) (0)), L, xP b)) rfl (by rw [xnt_0, xm_up_id]) ?_
  refine xw_loop 64 (fun c => (56, [.ref 60, .int (nI (72 * v)), .int (nI c)], [])) (fun c => (xS b, va_up I 67 (xnt N v (I 67) (c)), L, xP b)) (fun c hc ih => ?_) ?_ 0 (Nat.zero_le _)
  · skip
    refine xw_go xb_142 3 (f1 := (if 64 ≤ (nI c) then 85 else 62, [.ref 60, .int (nI (72 * v)), .int (nI c)], [])) (h1 := (xS b, va_up I 67 (xnt N v (I 67) (c)), L, xP b)) rfl trivial ?_
    refine xw_if (fun c_59 => ?_) (fun c_59 => ?_)
    · skip
      exfalso
      simp (disch := omega) only [xl_64, nI_leI] at c_59
      omega
    · skip
      refine xw_go xb_142 14 (f1 := (56, [.ref 60, .int (nI (72 * v)), .int ((nI c) + 1)], [])) (h1 := (xS b, xm_up (va_up I 67 (xnt N v (I 67) (c))) 67 ((nI (72 * v)) + (nI c)).toNatClampNeg ((va_up I 67 (xnt N v (I 67) (c))) 61 (95 + (nI c)).toNatClampNeg), L, xP b)) rfl ⟨rfl, rfl, (xn_ar' (n := 95 + c) (N := 159) rfl (show 95 + nI c = _ by rw [xl_95, nI_add]) (by omega) (by decide)), (xn_ar' (n := 72 * v + c) (N := 576) rfl (show nI (72 * v) + nI c = _ by rw [nI_add]) (by omega) (by decide)), trivial⟩ ?_
      refine xw_cong ?_ rfl ?_ ih
      · rw [nI_1]
      · have e1 : (va_up I 67 (xnt N v (I 67) (c))) 61 (95 + nI c).toNatClampNeg = nI (N (95 + c)) := by
          rw [xl_95, nI_add, xn_cl (by omega)]
          exact hM _ (by omega)
        rw [e1, nI_add, xn_cl (by omega), xup_s, xnt_up (by unfold xsn; rw [if_pos hc])]
  · skip
    refine xw_go xb_142 3 (f1 := (if 64 ≤ (nI 64) then 85 else 62, [.ref 60, .int (nI (72 * v)), .int (nI 64)], [])) (h1 := (xS b, va_up I 67 (xnt N v (I 67) (64)), L, xP b)) rfl trivial ?_
    refine xw_if (fun c_59 => ?_) (fun c_59 => ?_)
    · skip
      refine xw_go xb_142 2 (f1 := (87, [.ref 60, .int (nI (72 * v)), .int 0], [])) (h1 := (xS b, va_up I 67 (xnt N v (I 67) (64)), L, xP b)) rfl trivial ?_
      refine xw_at (f' := (87, [.ref 60, .int (nI (72 * v)), .int (nI 0)], [])) (h' := (xS b, va_up I 67 (xnt N v (I 67) (64 + 0)), L, xP b)) rfl rfl ?_
      refine xw_loop 5 (fun c => (87, [.ref 60, .int (nI (72 * v)), .int (nI c)], [])) (fun c => (xS b, va_up I 67 (xnt N v (I 67) (64 + c)), L, xP b)) (fun c hc ih => ?_) ?_ 0 (Nat.zero_le _)
      · skip
        refine xw_go xb_142 3 (f1 := (if 5 ≤ (nI c) then 115 else 92, [.ref 60, .int (nI (72 * v)), .int (nI c)], [])) (h1 := (xS b, va_up I 67 (xnt N v (I 67) (64 + c)), L, xP b)) rfl trivial ?_
        refine xw_if (fun c_89 => ?_) (fun c_89 => ?_)
        · skip
          exfalso
          simp (disch := omega) only [xl_5, nI_leI] at c_89
          omega
        · skip
          refine xw_go xb_142 10 (f1 := (105, [.ref 60, .int (nI (72 * v)), .int (nI c)], [.int 1, .int (nI c), .ref 60, .int (((nI (72 * v)) + 64) + (nI c)), .ref 67])) (h1 := (xS b, va_up I 67 (xnt N v (I 67) (64 + c)), L, xP b)) rfl ⟨rfl, trivial⟩ ?_
          refine xw_call xb_142 rfl rfl rfl rfl rfl (Or.inr ⟨_, _, rfl, rfl⟩) (m_told (I := (va_up I 67 (xnt N v (I 67) (64 + c)))) (N := N) (fun k hk => hM k hk) (p := c) (w := 1) hc (by decide) rfl rfl) ?_
          rintro _ _ ⟨rfl, rfl⟩
          refine xw_at (f' := (108, [.ref 60, .int (nI (72 * v)), .int (nI c)], [.int (nI (N (11 + 4 * c + 1))), .int (((nI (72 * v)) + 64) + (nI c)), .ref 67])) (h' := (xS b, va_up I 67 (xnt N v (I 67) (64 + c)), L, xP b)) rfl rfl ?_
          refine xw_go xb_142 3 (f1 := (87, [.ref 60, .int (nI (72 * v)), .int ((nI c) + 1)], [])) (h1 := (xS b, xm_up (va_up I 67 (xnt N v (I 67) (64 + c))) 67 (((nI (72 * v)) + 64) + (nI c)).toNatClampNeg (nI (N (11 + 4 * c + 1))), L, xP b)) rfl ⟨(xn_ar' (n := 72 * v + (64 + c)) (N := 576) rfl (show nI (72 * v) + 64 + nI c = _ by rw [xl_64, nI_add, nI_add, Nat.add_assoc]) (by omega) (by decide)), trivial⟩ ?_
          refine xw_cong ?_ rfl ?_ ih
          · rw [nI_1]
          · rw [xl_64, nI_add, nI_add, xn_cl (by omega), xup_s, Nat.add_assoc, xnt_up]
            · rfl
            · unfold xsn
              rw [if_neg (by omega), if_pos (by omega), show 64 + c - 64 = c by omega, show 11 + 4 * c + 1 = 12 + 4 * c by omega]
      · skip
        refine xw_go xb_142 3 (f1 := (if 5 ≤ (nI 5) then 115 else 92, [.ref 60, .int (nI (72 * v)), .int (nI 5)], [])) (h1 := (xS b, va_up I 67 (xnt N v (I 67) (64 + 5)), L, xP b)) rfl trivial ?_
        refine xw_if (fun c_89 => ?_) (fun c_89 => ?_)
        · skip
          refine xw_go xb_142 36 (f1 := (172, [.ref 60, .int (nI (72 * v)), .int (nI 5)], [])) (h1 := (xS b, xm_up (xm_up (xm_up (xm_up (va_up I 67 (xnt N v (I 67) (64 + 5))) 67 ((nI (72 * v)) + 69).toNatClampNeg ((va_up I 67 (xnt N v (I 67) (64 + 5))) 61 (9 : Int32).toNatClampNeg)) 67 ((nI (72 * v)) + 70).toNatClampNeg ((xm_up (va_up I 67 (xnt N v (I 67) (64 + 5))) 67 ((nI (72 * v)) + 69).toNatClampNeg ((va_up I 67 (xnt N v (I 67) (64 + 5))) 61 (9 : Int32).toNatClampNeg)) 61 (4 : Int32).toNatClampNeg)) 67 ((nI (72 * v)) + 71).toNatClampNeg ((xm_up (xm_up (va_up I 67 (xnt N v (I 67) (64 + 5))) 67 ((nI (72 * v)) + 69).toNatClampNeg ((va_up I 67 (xnt N v (I 67) (64 + 5))) 61 (9 : Int32).toNatClampNeg)) 67 ((nI (72 * v)) + 70).toNatClampNeg ((xm_up (va_up I 67 (xnt N v (I 67) (64 + 5))) 67 ((nI (72 * v)) + 69).toNatClampNeg ((va_up I 67 (xnt N v (I 67) (64 + 5))) 61 (9 : Int32).toNatClampNeg)) 61 (4 : Int32).toNatClampNeg)) 61 (10 : Int32).toNatClampNeg)) 60 10 (((xm_up (xm_up (xm_up (va_up I 67 (xnt N v (I 67) (64 + 5))) 67 ((nI (72 * v)) + 69).toNatClampNeg ((va_up I 67 (xnt N v (I 67) (64 + 5))) 61 (9 : Int32).toNatClampNeg)) 67 ((nI (72 * v)) + 70).toNatClampNeg ((xm_up (va_up I 67 (xnt N v (I 67) (64 + 5))) 67 ((nI (72 * v)) + 69).toNatClampNeg ((va_up I 67 (xnt N v (I 67) (64 + 5))) 61 (9 : Int32).toNatClampNeg)) 61 (4 : Int32).toNatClampNeg)) 67 ((nI (72 * v)) + 71).toNatClampNeg ((xm_up (xm_up (va_up I 67 (xnt N v (I 67) (64 + 5))) 67 ((nI (72 * v)) + 69).toNatClampNeg ((va_up I 67 (xnt N v (I 67) (64 + 5))) 61 (9 : Int32).toNatClampNeg)) 67 ((nI (72 * v)) + 70).toNatClampNeg ((xm_up (va_up I 67 (xnt N v (I 67) (64 + 5))) 67 ((nI (72 * v)) + 69).toNatClampNeg ((va_up I 67 (xnt N v (I 67) (64 + 5))) 61 (9 : Int32).toNatClampNeg)) 61 (4 : Int32).toNatClampNeg)) 61 (10 : Int32).toNatClampNeg)) 60 10) + 1), L, xP b)) rfl ⟨rfl, rfl, (xn_ar (n := 9) (N := 159) rfl (by decide) (by decide)), (xn_ar' (n := 72 * v + 69) (N := 576) rfl (show nI (72 * v) + 69 = _ by rw [xl_69, nI_add]) (by omega) (by decide)), rfl, rfl, (xn_ar (n := 4) (N := 159) rfl (by decide) (by decide)), (xn_ar' (n := 72 * v + 70) (N := 576) rfl (show nI (72 * v) + 70 = _ by rw [xl_70, nI_add]) (by omega) (by decide)), rfl, rfl, (xn_ar (n := 10) (N := 159) rfl (by decide) (by decide)), (xn_ar' (n := 72 * v + 71) (N := 576) rfl (show nI (72 * v) + 71 = _ by rw [xl_71, nI_add]) (by omega) (by decide)), rfl, rfl, trivial⟩ ?_
          refine xw_ret xb_142 rfl rfl trivial ?_
          refine kk _ ?_
          rw [show (9 : Int32).toNatClampNeg = 9 from rfl, show (4 : Int32).toNatClampNeg = 4 from rfl, show (10 : Int32).toNatClampNeg = 10 from rfl, xl_69, xl_70, xl_71, nI_add, nI_add, nI_add, xn_cl (by omega), xn_cl (by omega), xn_cl (by omega)]
          have f9 : (va_up I 67 (xnt N v (I 67) (64 + 5))) 61 9 = nI (xsn N 69) := hM 9 (by decide)
          have f4 : ∀ k (x : Int32), (xm_up (va_up I 67 (xnt N v (I 67) (64 + 5))) 67 k x) 61 4 = nI (xsn N 70) := fun k x => hM 4 (by decide)
          have f10 : ∀ k x k2 (x2 : Int32), (xm_up (xm_up (va_up I 67 (xnt N v (I 67) (64 + 5))) 67 k x) 67 k2 x2) 61 10 = nI (xsn N 71) := fun k x k2 x2 => hM 10 (by decide)
          rw [f9, f4, f10]
          have f6 : ∀ k x k2 (x2 : Int32) k3 (x3 : Int32), (xm_up (xm_up (xm_up (va_up I 67 (xnt N v (I 67) (64 + 5))) 67 k x) 67 k2 x2) 67 k3 x3) 60 10 + 1 = nI (v + 1) := fun k x k2 x2 k3 x3 => by
            rw [← nI_1, ← hu]
            rfl
          rw [f6, xup_s, xup_s, xup_s, xnt_up (i := 69) rfl, xnt_up (i := 70) rfl, xnt_up (i := 71) rfl]
        · skip
          exfalso
          simp (disch := omega) only [xl_5, nI_leI] at c_89
          omega
    · skip
      exfalso
      simp (disch := omega) only [xl_64, nI_leI] at c_59
      omega
theorem xML_psh {N : Nat → Nat} {u : Nat} {U : Nat → Nat → Nat} {I I' : Nat → Nat → Int32} {g : Nat → Int32} (hM : xML N u U I) (hu : u ≤ 8) (hg : ∀ m, m < 72 * min u 7 → g m = I 67 (m + 72 * (u - 7))) (h61 : I' 61 = I 61) (h67 : I' 67 = xnt N (min u 7) g 72) (h60 : I' 60 10 = nI (min u 7 + 1)) : xML N (min 8 (u + 1)) (xpsh N u U) I' := by
  refine ⟨fun k hk => by rw [h61]; exact hM.1 k hk, by rw [h60]; congr 1; omega, fun j hj i hi => ?_⟩
  rw [h67]
  unfold xnt xpsh
  by_cases h : j = min u 7
  · rw [if_pos h, if_pos (by omega)]
    congr 2
    omega
  · rw [if_neg h, if_neg (by omega), hg _ (by omega), ← hM.2.2 (j + (u - 7)) (by omega) i hi]
    congr 1
    omega
set_option maxHeartbeats 4000000 in
theorem m_notes8 {d : Nat} {b : Bool} {I : Nat → Nat → Int32} {L : Nat → Nat → Int64} {N : Nat → Nat} {u : Nat} {U : Nat → Nat → Nat} (hM : xML N u U I) (hK : xUK N u U) (h8 : u = 8) : xm_Z (d + 2) 142 [.ref 60] (xS b, I, L, xP b) (fun rz hz => rz = none ∧ ∃ I', hz = (xS b, I', L, xP b) ∧ xMF I I' ∧ I' 62 = I 62 ∧ xML N (min 8 (u + 1)) (xpsh N u U) I') := by
  refine xw_S xb_142 (l := [.ref 60, .float 0, .float 0]) (Nat.le_of_ble_eq_true rfl) rfl ?_
  refine xw_go xb_142 4 (f1 := (if ¬ (I 60 10) = 8 then 46 else 9, [.ref 60, .float 0, .float 0], [])) (h1 := (xS b, I, L, xP b)) rfl ⟨rfl, trivial⟩ ?_
  refine xw_if (fun c_6 => ?_) (fun c_6 => ?_)
  · skip
    exfalso
    rw [hM.2.1, h8] at c_6
    exact c_6 rfl
  · skip
    refine xw_go xb_142 2 (f1 := (12, [.ref 60, .int 72, .float 0], [])) (h1 := (xS b, I, L, xP b)) rfl trivial ?_
    refine xw_at (f' := (12, [.ref 60, .int (nI (72 + 0)), .float 0], [])) (h' := (xS b, va_up I 67 (fun m => if m < 0 then I 67 (m + 72) else I 67 m), L, xP b)) rfl ?_ ?_
    · refine congrArg (fun X => (xS b, X, L, xP b)) ?_
      have : (fun m => if m < 0 then I 67 (m + 72) else I 67 m) = I 67 := by
        funext m
        rw [if_neg (by omega)]
      rw [this, xm_up_id]
    refine xw_loop 504 (fun i => (12, [.ref 60, .int (nI (72 + i)), .float 0], [])) (fun i => (xS b, va_up I 67 (fun m => if m < i then I 67 (m + 72) else I 67 m), L, xP b)) (fun i hi ih => ?_) ?_ 0 (Nat.zero_le _)
    · skip
      refine xw_go xb_142 3 (f1 := (if 576 ≤ (nI (72 + i)) then 40 else 19, [.ref 60, .int (nI (72 + i)), .float 0], [])) (h1 := (xS b, va_up I 67 (fun m => if m < i then I 67 (m + 72) else I 67 m), L, xP b)) rfl trivial ?_
      refine xw_if (fun c_16 => ?_) (fun c_16 => ?_)
      · skip
        exfalso
        simp (disch := omega) only [xl_576, nI_leI] at c_16
        omega
      · skip
        refine xw_go xb_142 12 (f1 := (12, [.ref 60, .int ((nI (72 + i)) + 1), .float 0], [])) (h1 := (xS b, xm_up (va_up I 67 (fun m => if m < i then I 67 (m + 72) else I 67 m)) 67 ((nI (72 + i)) - 72).toNatClampNeg ((va_up I 67 (fun m => if m < i then I 67 (m + 72) else I 67 m)) 67 (nI (72 + i)).toNatClampNeg), L, xP b)) rfl ⟨rfl, rfl, (xn_ar (n := 72 + i) (N := 576) rfl (by omega) (by decide)), (xn_ar' (n := i) (N := 576) rfl (show nI (72 + i) - 72 = _ by rw [xl_72, xn_sub (by omega), Nat.add_sub_cancel_left]) (by omega) (by decide)), trivial⟩ ?_
        refine xw_cong ?_ rfl ?_ ih
        · rw [nI_1, Nat.add_assoc]
        · have e1 : (va_up I 67 (fun m => if m < i then I 67 (m + 72) else I 67 m)) 67 (nI (72 + i)).toNatClampNeg = I 67 (72 + i) := by
            rw [xn_cl (by omega)]
            simp only [va_up, if_true]
            rw [if_neg (by omega)]
          rw [e1, xl_72, xn_sub (by omega), Nat.add_sub_cancel_left, xn_cl (by omega), xup_s]
          refine congrArg (fun X => (xS b, va_up I 67 X, L, xP b)) ?_
          funext m
          by_cases h : m = i
          · subst h
            simp only [va_up, if_true]
            rw [if_pos (by omega), Nat.add_comm]
          · simp only [va_up, h, if_false]
            by_cases h1 : m < i
            · rw [if_pos h1, if_pos (by omega)]
            · rw [if_neg h1, if_neg (by omega)]
    · skip
      refine xw_go xb_142 3 (f1 := (if 576 ≤ (nI (72 + 504)) then 40 else 19, [.ref 60, .int (nI (72 + 504)), .float 0], [])) (h1 := (xS b, va_up I 67 (fun m => if m < 504 then I 67 (m + 72) else I 67 m), L, xP b)) rfl trivial ?_
      refine xw_if (fun c_16 => ?_) (fun c_16 => ?_)
      · skip
        refine xw_go xb_142 3 (f1 := (46, [.ref 60, .int (nI (72 + 504)), .float 0], [])) (h1 := (xS b, xm_up (va_up I 67 (fun m => if m < 504 then I 67 (m + 72) else I 67 m)) 60 10 7, L, xP b)) rfl ⟨rfl, trivial⟩ ?_
        refine m_notesT (I := xm_up (va_up I 67 (fun m => if m < 504 then I 67 (m + 72) else I 67 m)) 60 10 7) (N := N) (v := 7) (fun k hk => hM.1 k hk) (Nat.le_refl 7) xl_7 (Or.inr ⟨_, rfl⟩) ?_
        rintro I' rfl
        refine ⟨rfl, _, rfl, xMF_n (xMF_v (xMF_n (xMF_v (xMF_r I) (by decide))) (by decide)), rfl, ?_⟩
        subst h8
        refine xML_psh hM (Nat.le_refl 8) (g := fun m => if m < 504 then I 67 (m + 72) else I 67 m) (fun m hm => ?_) rfl ?_ rfl
        · show (if m < 504 then I 67 (m + 72) else I 67 m) = _
          rw [if_pos (by omega)]
        · rfl
      · skip
        exfalso
        simp (disch := omega) only [xl_576, nI_leI] at c_16
        omega

set_option maxHeartbeats 4000000 in
theorem m_notes7 {d : Nat} {b : Bool} {I : Nat → Nat → Int32} {L : Nat → Nat → Int64} {N : Nat → Nat} {u : Nat} {U : Nat → Nat → Nat} (hM : xML N u U I) (hK : xUK N u U) (h7 : u < 8) : xm_Z (d + 2) 142 [.ref 60] (xS b, I, L, xP b) (fun rz hz => rz = none ∧ ∃ I', hz = (xS b, I', L, xP b) ∧ xMF I I' ∧ I' 62 = I 62 ∧ xML N (min 8 (u + 1)) (xpsh N u U) I') := by
  refine xw_S xb_142 (l := [.ref 60, .float 0, .float 0]) (Nat.le_of_ble_eq_true rfl) rfl ?_
  refine xw_go xb_142 4 (f1 := (if ¬ (I 60 10) = 8 then 46 else 9, [.ref 60, .float 0, .float 0], [])) (h1 := (xS b, I, L, xP b)) rfl ⟨rfl, trivial⟩ ?_
  refine xw_if (fun c_6 => ?_) (fun c_6 => ?_)
  · skip
    refine m_notesT (N := N) (v := u) (fun k hk => hM.1 k hk) (by omega) hM.2.1 (Or.inl rfl) ?_
    rintro I' rfl
    refine ⟨rfl, _, rfl, xMF_n (xMF_v (xMF_r I) (by decide)), rfl, ?_⟩
    have m7 : min u 7 = u := by omega
    refine xML_psh hM (by omega) (g := I 67) (fun m hm => ?_) rfl ?_ ?_
    · rw [show u - 7 = 0 by omega]
      rfl
    · rw [m7]
      rfl
    · rw [m7]
      rfl
  · skip
    exfalso
    rw [Classical.not_not, hM.2.1, xl_8, nI_eq (by omega) (by omega)] at c_6
    omega

theorem m_notes {d : Nat} {b : Bool} {I : Nat → Nat → Int32} {L : Nat → Nat → Int64} {N : Nat → Nat} {u : Nat} {U : Nat → Nat → Nat} (hM : xML N u U I) (hK : xUK N u U) : xm_Z (d + 2) 142 [.ref 60] (xS b, I, L, xP b) (fun rz hz => rz = none ∧ ∃ I', hz = (xS b, I', L, xP b) ∧ xMF I I' ∧ I' 62 = I 62 ∧ xML N (min 8 (u + 1)) (xpsh N u U) I') := by
  by_cases h : u = 8
  · exact m_notes8 hM hK h
  · exact m_notes7 hM hK (by have := hK.2.2.1; omega)
