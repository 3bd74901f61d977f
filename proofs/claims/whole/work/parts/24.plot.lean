/-! ===== the class: the plot ===== -/
def xcnt (f : Nat → Bool) : Nat → Nat
  | 0 => 0
  | n + 1 => xcnt f n + xB (f n)
def xsum (f : Nat → Nat) : Nat → Nat
  | 0 => 0
  | n + 1 => xsum f n + f n
def xfil {α : Type} (c : Nat) (f g : Nat → α) : Nat → α := fun j => if j < c then f j else g j
theorem xfil_0 {α : Type} (f g : Nat → α) : xfil 0 f g = g := by funext j; simp [xfil]
theorem xfil_up {α : Type} (I : Nat → Nat → α) (t c : Nat) (f g : Nat → α) {v : α} (hv : v = f c) : xm_up (va_up I t (xfil c f g)) t c v = va_up I t (xfil (c + 1) f g) := by
  subst hv
  funext a j
  by_cases ha : a = t
  · subst ha
    by_cases hj : j = c
    · subst hj
      simp [xm_up, va_up, xfil]
    · simp only [xm_up, va_up, xfil, if_true, hj, if_false]
      by_cases h1 : j < c
      · simp [h1, Nat.lt_succ_of_lt h1]
      · rw [if_neg h1, if_neg (by omega)]
  · simp [xm_up, va_up, ha]
theorem xm_up_id {α : Type} (I : Nat → α) (t : Nat) : va_up I t (I t) = I := by
  funext a
  by_cases ha : a = t
  · subst ha; simp [va_up]
  · simp [va_up, ha]
theorem xcnt_le (f : Nat → Bool) : ∀ n, xcnt f n ≤ n
  | 0 => Nat.le_refl 0
  | n + 1 => by
    have := xcnt_le f n
    have : xB (f n) ≤ 1 := by cases f n <;> decide
    simp only [xcnt]
    omega
theorem xcnt_congr {f g : Nat → Bool} {n : Nat} (h : ∀ c, c < n → f c = g c) : xcnt f n = xcnt g n := by
  induction n with
  | zero => rfl
  | succ n ih =>
    simp only [xcnt]
    rw [ih (fun c hc => h c (by omega)), h n (by omega)]
theorem xsum_congr {f g : Nat → Nat} {n : Nat} (h : ∀ c, c < n → f c = g c) : xsum f n = xsum g n := by
  induction n with
  | zero => rfl
  | succ n ih =>
    simp only [xsum]
    rw [ih (fun c hc => h c (by omega)), h n (by omega)]
theorem xsum_le {f : Nat → Nat} {n M : Nat} (h : ∀ c, c < n → f c ≤ M) : xsum f n ≤ n * M := by
  induction n with
  | zero => simp [xsum]
  | succ n ih =>
    have := ih (fun c hc => h c (by omega))
    have := h n (by omega)
    simp only [xsum, Nat.succ_mul]
    omega
theorem xB_01 (t : Bool) : nI (xB t) = 0 ∨ nI (xB t) = 1 := by cases t <;> decide
theorem xB_eq0 (t : Bool) : nI (xB t) = 0 ↔ t = false := by cases t <;> decide
theorem xB_lt (t : Bool) : xB t < 2 := by cases t <;> decide
/-- a loop, state by state -/
theorem xw_loop {d mi : Nat} {Q : Option Value → xm_H → Prop} (n : Nat) (F : Nat → xm_F) (G : Nat → xm_H) (hs : ∀ c, c < n → xm_W d mi (F (c + 1)) (G (c + 1)) Q → xm_W d mi (F c) (G c) Q) (he : xm_W d mi (F n) (G n) Q) : ∀ c, c ≤ n → xm_W d mi (F c) (G c) Q := by
  have key : ∀ k c, c + k = n → xm_W d mi (F c) (G c) Q := by
    intro k
    induction k with
    | zero => intro c hc; rw [show c = n by omega]; exact he
    | succ k ih => intro c hc; exact hs c (by omega) (ih (c + 1) (by omega))
  intro c hc
  exact key (n - c) c (by omega)
theorem xbit5 : ∀ o, o < 32 → ∀ i, i < 5 → ((nI o >>> (nI i &&& 31)) &&& 1 = 1 ↔ o.testBit i = true) := by decide +kernel
theorem xmul64 {R C : Nat} (h1 : R ≤ 8) (h2 : C ≤ 8) : R * C ≤ 64 := Nat.le_trans (Nat.mul_le_mul h1 h2) (by decide)
theorem c_within {d : Nat} {S : List (Nat × Nat)} {I : Nat → Nat → Int32} {L : Nat → Nat → Int64} {P : Nat → Nat → Option Nat} {x y z : Int32} : xm_Z (d + 1) 10 [.int x, .int y, .int z] (S, I, L, P) (fun rz hz => rz = some (.int (nI (xB (decide (y.toInt ≤ x.toInt ∧ x.toInt ≤ z.toInt))))) ∧ hz = (S, I, L, P)) := by
  refine xw_S xb_10 (Nat.le_of_ble_eq_true rfl) rfl ?_
  refine xw_go xb_10 3 rfl trivial ?_
  refine xw_if (fun c_2 => ?_) (fun c_2 => ?_)
  · skip
    refine xw_go xb_10 1 rfl trivial ?_
    refine xw_ret xb_10 rfl rfl ?_ ?_
    · first | exact Or.inl rfl | exact Or.inr rfl
    refine ⟨xm_some (congrArg Value.int ?_), rfl⟩
    simp only [xt_lt, xt_le] at c_2
    first | (rw [show decide (y.toInt ≤ x.toInt ∧ x.toInt ≤ z.toInt) = true from decide_eq_true (by omega)]; rfl) | (rw [show decide (y.toInt ≤ x.toInt ∧ x.toInt ≤ z.toInt) = false from decide_eq_false (by omega)]; rfl)
  · skip
    refine xw_go xb_10 3 rfl trivial ?_
    refine xw_if (fun c_7 => ?_) (fun c_7 => ?_)
    · skip
      refine xw_go xb_10 1 rfl trivial ?_
      refine xw_ret xb_10 rfl rfl ?_ ?_
      · first | exact Or.inl rfl | exact Or.inr rfl
      refine ⟨xm_some (congrArg Value.int ?_), rfl⟩
      simp only [xt_lt, xt_le] at c_2 c_7
      first | (rw [show decide (y.toInt ≤ x.toInt ∧ x.toInt ≤ z.toInt) = true from decide_eq_true (by omega)]; rfl) | (rw [show decide (y.toInt ≤ x.toInt ∧ x.toInt ≤ z.toInt) = false from decide_eq_false (by omega)]; rfl)
    · skip
      refine xw_go xb_10 2 rfl trivial ?_
      refine xw_ret xb_10 rfl rfl ?_ ?_
      · first | exact Or.inl rfl | exact Or.inr rfl
      refine ⟨xm_some (congrArg Value.int ?_), rfl⟩
      simp only [xt_lt, xt_le] at c_2 c_7
      first | (rw [show decide (y.toInt ≤ x.toInt ∧ x.toInt ≤ z.toInt) = true from decide_eq_true (by omega)]; rfl) | (rw [show decide (y.toInt ≤ x.toInt ∧ x.toInt ≤ z.toInt) = false from decide_eq_false (by omega)]; rfl)

theorem c_cells {d : Nat} {b : Bool} {I : Nat → Nat → Int32} {L : Nat → Nat → Int64} {R C : Nat} (hR : I 1 0 = nI R) (hC : I 1 1 = nI C)  : xm_Z (d + 1) 13 [.ref 1] (xS b, I, L, xP b) (fun rz hz => rz = some (.int (nI (R * C))) ∧ hz = (xS b, I, L, xP b)) := by
  refine xw_S xb_13 (Nat.le_of_ble_eq_true rfl) rfl ?_
  refine xw_go xb_13 5 rfl ⟨rfl, rfl, trivial⟩ ?_
  refine xw_ret xb_13 rfl rfl trivial ?_
  refine ⟨xm_some (congrArg Value.int ?_), rfl⟩
  show I 1 0 * I 1 1 = _
  rw [hR, hC, pk_mul]

theorem c_hasCell {d : Nat} {b : Bool} {I : Nat → Nat → Int32} {L : Nat → Nat → Int64} {R C : Nat} (hR : I 1 0 = nI R) (hC : I 1 1 = nI C) (bR : R ≤ 8) (bC : C ≤ 8) {x : Int32} (b0 : 0 < R * C) : xm_Z (d + 2) 15 [.ref 1, .int x] (xS b, I, L, xP b) (fun rz hz => rz = some (.int (nI (xB (decide (0 ≤ x.toInt ∧ x.toInt < ((R * C : Nat) : Int)))))) ∧ hz = (xS b, I, L, xP b)) := by
  refine xw_S xb_15 (Nat.le_of_ble_eq_true rfl) rfl ?_
  refine xw_go xb_15 3 rfl trivial ?_
  refine xw_call xb_15 rfl rfl rfl rfl rfl (Or.inr ⟨_, _, rfl, rfl⟩) (c_cells hR hC) ?_
  rintro _ _ ⟨rfl, rfl⟩
  refine xw_go xb_15 2 rfl trivial ?_
  refine xw_call xb_15 rfl rfl rfl rfl rfl (Or.inl rfl) c_within ?_
  rintro _ _ ⟨rfl, rfl⟩
  refine xw_ret xb_15 rfl rfl ?_ ?_
  · exact xB_01 _
  refine ⟨xm_some (congrArg Value.int ?_), rfl⟩
  congr 3
  have e1 : (nI (R * C) - 1).toInt = ((R * C : Nat) : Int) - 1 := by
    have := xmul64 bR bC
    rw [xl_1, xt_sub (by omega) (by omega)]
    omega
  apply propext
  show ((0 : Int32).toInt ≤ x.toInt ∧ x.toInt ≤ (nI (R * C) - 1).toInt) ↔ _
  rw [e1, Int32.toInt_zero]
  omega

theorem c_hasSprinkler {d : Nat} {b : Bool} {I : Nat → Nat → Int32} {L : Nat → Nat → Int64} {n : Nat} (hn : I 1 5 = nI n) (bn : n ≤ 5) {x : Int32} : xm_Z (d + 2) 20 [.ref 1, .int x] (xS b, I, L, xP b) (fun rz hz => rz = some (.int (nI (xB (decide (0 ≤ x.toInt ∧ x.toInt < (n : Int)))))) ∧ hz = (xS b, I, L, xP b)) := by
  refine xw_S xb_20 (Nat.le_of_ble_eq_true rfl) rfl ?_
  refine xw_go xb_20 6 rfl ⟨rfl, trivial⟩ ?_
  refine xw_call xb_20 rfl rfl rfl rfl rfl (Or.inl rfl) c_within ?_
  rintro _ _ ⟨rfl, rfl⟩
  refine xw_ret xb_20 rfl rfl ?_ ?_
  · exact xB_01 _
  refine ⟨xm_some (congrArg Value.int ?_), rfl⟩
  congr 3
  have e1 : (nI n - 1).toInt = (n : Int) - 1 := by
    rw [xl_1, xt_sub (by omega) (by omega)]
    omega
  apply propext
  show ((0 : Int32).toInt ≤ x.toInt ∧ x.toInt ≤ (I 1 5 - 1).toInt) ↔ _
  rw [hn, e1, Int32.toInt_zero]
  omega

theorem c_isOn {d : Nat} {b : Bool} {I : Nat → Nat → Int32} {L : Nat → Nat → Int64} {w i : Nat} (hw : I 1 6 = nI w) (bw : w < 32) (bi : i < 5) {x1 : Int32} (e_x1 : x1 = nI i) : xm_Z (d + 1) 21 [.ref 1, .int x1] (xS b, I, L, xP b) (fun rz hz => rz = some (.int (nI (xB (w.testBit i)))) ∧ hz = (xS b, I, L, xP b)) := by
  subst e_x1
  refine xw_S xb_21 (Nat.le_of_ble_eq_true rfl) rfl ?_
  refine xw_go xb_21 8 rfl ⟨rfl, trivial⟩ ?_
  refine xw_if (fun c_9 => ?_) (fun c_9 => ?_)
  · skip
    refine xw_go xb_21 1 rfl trivial ?_
    refine xw_ret xb_21 rfl rfl ?_ ?_
    · first | exact Or.inl rfl | exact Or.inr rfl
    refine ⟨xm_some (congrArg Value.int ?_), rfl⟩
    have q := xbit5 w bw i bi
    rw [← hw] at q
    by_cases hb : w.testBit i = true
    · first | exact absurd (q.mpr hb) c_9 | (rw [hb]; rfl)
    · rw [show w.testBit i = false by simpa using hb]
      first | rfl | exact absurd (fun z => hb (q.mp z)) c_9
  · skip
    refine xw_go xb_21 2 rfl trivial ?_
    refine xw_ret xb_21 rfl rfl ?_ ?_
    · first | exact Or.inl rfl | exact Or.inr rfl
    refine ⟨xm_some (congrArg Value.int ?_), rfl⟩
    have q := xbit5 w bw i bi
    rw [← hw] at q
    by_cases hb : w.testBit i = true
    · first | exact absurd (q.mpr hb) c_9 | (rw [hb]; rfl)
    · rw [show w.testBit i = false by simpa using hb]
      first | rfl | exact absurd (fun z => hb (q.mp z)) c_9

theorem c_rowOf {d : Nat} {b : Bool} {I : Nat → Nat → Int32} {L : Nat → Nat → Int64} {C c : Nat} (hC : I 1 1 = nI C) (bC : 0 < C ∧ C ≤ 8) (bc : c < 2 ^ 31) {x1 : Int32} (e_x1 : x1 = nI c) : xm_Z (d + 1) 24 [.ref 1, .int x1] (xS b, I, L, xP b) (fun rz hz => rz = some (.int (nI (c / C))) ∧ hz = (xS b, I, L, xP b)) := by
  subst e_x1
  refine xw_S xb_24 (Nat.le_of_ble_eq_true rfl) rfl ?_
  refine xw_go xb_24 3 rfl ⟨rfl, trivial⟩ ?_
  refine xw_if (fun c_4 => ?_) (fun c_4 => ?_)
  · skip
    refine xw_go xb_24 1 rfl trivial ?_
    refine xw_ret xb_24 rfl rfl trivial ?_
    refine ⟨xm_some (congrArg Value.int ?_), rfl⟩
    simp (disch := omega) only [hC, xl_0, nI_leI] at c_4
    first | omega | (show nI c / I 1 1 = _; rw [hC, xn_div (by omega) (by omega) (by omega)])
  · skip
    refine xw_go xb_24 5 rfl ⟨rfl, (by show ¬ I 1 1 = 0; rw [hC]; exact xn_ne (by omega) (by omega)), trivial⟩ ?_
    refine xw_ret xb_24 rfl rfl trivial ?_
    refine ⟨xm_some (congrArg Value.int ?_), rfl⟩
    simp (disch := omega) only [hC, xl_0, nI_leI] at c_4
    first | omega | (show nI c / I 1 1 = _; rw [hC, xn_div (by omega) (by omega) (by omega)])

theorem c_changeWind {d : Nat} {b : Bool} {I : Nat → Nat → Int32} {L : Nat → Nat → Int64} {x : Int32} : xm_Z (d + 1) 39 [.ref 1, .int x] (xS b, I, L, xP b) (fun rz hz => rz = some (.int (I 1 7)) ∧ hz = (xS b, xm_up I 1 7 x, L, xP b)) := by
  refine xw_S xb_39 (Nat.le_of_ble_eq_true rfl) rfl ?_
  refine xw_go xb_39 7 rfl ⟨rfl, rfl, trivial⟩ ?_
  refine xw_ret xb_39 rfl rfl trivial ?_
  exact ⟨rfl, rfl⟩

theorem c_changeTap {d : Nat} {b : Bool} {I : Nat → Nat → Int32} {L : Nat → Nat → Int64} {x : Int32} : xm_Z (d + 1) 40 [.ref 1, .int x] (xS b, I, L, xP b) (fun rz hz => rz = some (.int (I 1 8)) ∧ hz = (xS b, xm_up I 1 8 x, L, xP b)) := by
  refine xw_S xb_40 (Nat.le_of_ble_eq_true rfl) rfl ?_
  refine xw_go xb_40 7 rfl ⟨rfl, rfl, trivial⟩ ?_
  refine xw_ret xb_40 rfl rfl trivial ?_
  exact ⟨rfl, rfl⟩

theorem c_changeLeast {d : Nat} {b : Bool} {I : Nat → Nat → Int32} {L : Nat → Nat → Int64} {x : Int32} : xm_Z (d + 1) 41 [.ref 1, .int x] (xS b, I, L, xP b) (fun rz hz => rz = some (.int (I 1 9)) ∧ hz = (xS b, xm_up I 1 9 x, L, xP b)) := by
  refine xw_S xb_41 (Nat.le_of_ble_eq_true rfl) rfl ?_
  refine xw_go xb_41 7 rfl ⟨rfl, rfl, trivial⟩ ?_
  refine xw_ret xb_41 rfl rfl trivial ?_
  exact ⟨rfl, rfl⟩

theorem c_changeMost {d : Nat} {b : Bool} {I : Nat → Nat → Int32} {L : Nat → Nat → Int64} {x : Int32} : xm_Z (d + 1) 42 [.ref 1, .int x] (xS b, I, L, xP b) (fun rz hz => rz = some (.int (I 1 10)) ∧ hz = (xS b, xm_up I 1 10 x, L, xP b)) := by
  refine xw_S xb_42 (Nat.le_of_ble_eq_true rfl) rfl ?_
  refine xw_go xb_42 7 rfl ⟨rfl, rfl, trivial⟩ ?_
  refine xw_ret xb_42 rfl rfl trivial ?_
  exact ⟨rfl, rfl⟩

theorem c_isDry {d : Nat} {b : Bool} {I : Nat → Nat → Int32} {L : Nat → Nat → Int64} {c so : Nat} (hs : I 2 c = nI so) (bc : c < 64) (bs : so < 3) {wt le : Nat} (hl : I 1 9 = nI le) (bw : wt < 2 ^ 31) (bl : le < 2 ^ 31) {x1 : Int32} (e_x1 : x1 = nI c) {x2 : Int32} (e_x2 : x2 = nI wt) : xm_Z (d + 1) 76 [.ref 1, .int x1, .int x2] (xS b, I, L, xP b) (fun rz hz => rz = some (.int (nI (xB (xs_dry so wt le)))) ∧ hz = (xS b, I, L, xP b)) := by
  subst e_x2
  subst e_x1
  refine xw_S xb_76 (Nat.le_of_ble_eq_true rfl) rfl ?_
  refine xw_go xb_76 6 rfl ⟨rfl, (xn_ar (N := 64) rfl bc (by decide)), trivial⟩ ?_
  refine xw_if (fun c_7 => ?_) (fun c_7 => ?_)
  · skip
    refine xw_go xb_76 1 rfl trivial ?_
    refine xw_ret xb_76 rfl rfl ?_ ?_
    · first | exact Or.inl rfl | exact Or.inr rfl
    refine ⟨xm_some (congrArg Value.int ?_), rfl⟩
    simp (disch := omega) only [xn_cl, hs, hl, xl_2, nI_leI, nI_ltI, nI_eq] at c_7
    first | exact (congrArg (fun t => nI (xB t)) (show xs_dry so wt le = true by unfold xs_dry; (repeat' split) <;> simp <;> omega)).symm | exact (congrArg (fun t => nI (xB t)) (show xs_dry so wt le = false by unfold xs_dry; (repeat' split) <;> simp <;> omega)).symm
  · skip
    refine xw_go xb_76 4 rfl ⟨rfl, trivial⟩ ?_
    refine xw_if (fun c_15 => ?_) (fun c_15 => ?_)
    · skip
      refine xw_go xb_76 1 rfl trivial ?_
      refine xw_ret xb_76 rfl rfl ?_ ?_
      · first | exact Or.inl rfl | exact Or.inr rfl
      refine ⟨xm_some (congrArg Value.int ?_), rfl⟩
      simp (disch := omega) only [xn_cl, hs, hl, xl_2, nI_leI, nI_ltI, nI_eq] at c_7 c_15
      first | exact (congrArg (fun t => nI (xB t)) (show xs_dry so wt le = true by unfold xs_dry; (repeat' split) <;> simp <;> omega)).symm | exact (congrArg (fun t => nI (xB t)) (show xs_dry so wt le = false by unfold xs_dry; (repeat' split) <;> simp <;> omega)).symm
    · skip
      refine xw_go xb_76 2 rfl trivial ?_
      refine xw_ret xb_76 rfl rfl ?_ ?_
      · first | exact Or.inl rfl | exact Or.inr rfl
      refine ⟨xm_some (congrArg Value.int ?_), rfl⟩
      simp (disch := omega) only [xn_cl, hs, hl, xl_2, nI_leI, nI_ltI, nI_eq] at c_7 c_15
      first | exact (congrArg (fun t => nI (xB t)) (show xs_dry so wt le = true by unfold xs_dry; (repeat' split) <;> simp <;> omega)).symm | exact (congrArg (fun t => nI (xB t)) (show xs_dry so wt le = false by unfold xs_dry; (repeat' split) <;> simp <;> omega)).symm

theorem c_isWrong {d : Nat} {b : Bool} {I : Nat → Nat → Int32} {L : Nat → Nat → Int64} {c so : Nat} (hs : I 2 c = nI so) (bc : c < 64) (bs : so < 3) {wt le mo : Nat} (hl : I 1 9 = nI le) (hm : I 1 10 = nI mo) (bw : wt < 2 ^ 31) (bl : le < 2 ^ 31) (bm : mo < 2 ^ 31) {x1 : Int32} (e_x1 : x1 = nI c) {x2 : Int32} (e_x2 : x2 = nI wt) : xm_Z (d + 1) 35 [.ref 1, .int x1, .int x2] (xS b, I, L, xP b) (fun rz hz => rz = some (.int (nI (xB (xs_wrong so wt le mo)))) ∧ hz = (xS b, I, L, xP b)) := by
  subst e_x2
  subst e_x1
  refine xw_S xb_35 (Nat.le_of_ble_eq_true rfl) rfl ?_
  refine xw_go xb_35 6 rfl ⟨rfl, (xn_ar (N := 64) rfl bc (by decide)), trivial⟩ ?_
  refine xw_if (fun c_7 => ?_) (fun c_7 => ?_)
  · skip
    refine xw_go xb_35 4 rfl ⟨rfl, trivial⟩ ?_
    refine xw_if (fun c_27 => ?_) (fun c_27 => ?_)
    · skip
      refine xw_go xb_35 2 rfl trivial ?_
      refine xw_ret xb_35 rfl rfl ?_ ?_
      · first | exact Or.inl rfl | exact Or.inr rfl
      refine ⟨xm_some (congrArg Value.int ?_), rfl⟩
      simp (disch := omega) only [xn_cl, hs, hl, hm, xl_2, xl_9, nI_leI, nI_ltI, nI_eq] at c_7 c_27
      first | exact (congrArg (fun t => nI (xB t)) (show xs_wrong so wt le mo = true by unfold xs_wrong; (repeat' split) <;> simp <;> omega)).symm | exact (congrArg (fun t => nI (xB t)) (show xs_wrong so wt le mo = false by unfold xs_wrong; (repeat' split) <;> simp <;> omega)).symm
    · skip
      refine xw_go xb_35 4 rfl ⟨rfl, trivial⟩ ?_
      refine xw_if (fun c_35 => ?_) (fun c_35 => ?_)
      · skip
        refine xw_go xb_35 1 rfl trivial ?_
        refine xw_ret xb_35 rfl rfl ?_ ?_
        · first | exact Or.inl rfl | exact Or.inr rfl
        refine ⟨xm_some (congrArg Value.int ?_), rfl⟩
        simp (disch := omega) only [xn_cl, hs, hl, hm, xl_2, xl_9, nI_leI, nI_ltI, nI_eq] at c_7 c_27 c_35
        first | exact (congrArg (fun t => nI (xB t)) (show xs_wrong so wt le mo = true by unfold xs_wrong; (repeat' split) <;> simp <;> omega)).symm | exact (congrArg (fun t => nI (xB t)) (show xs_wrong so wt le mo = false by unfold xs_wrong; (repeat' split) <;> simp <;> omega)).symm
      · skip
        refine xw_go xb_35 2 rfl trivial ?_
        refine xw_ret xb_35 rfl rfl ?_ ?_
        · first | exact Or.inl rfl | exact Or.inr rfl
        refine ⟨xm_some (congrArg Value.int ?_), rfl⟩
        simp (disch := omega) only [xn_cl, hs, hl, hm, xl_2, xl_9, nI_leI, nI_ltI, nI_eq] at c_7 c_27 c_35
        first | exact (congrArg (fun t => nI (xB t)) (show xs_wrong so wt le mo = true by unfold xs_wrong; (repeat' split) <;> simp <;> omega)).symm | exact (congrArg (fun t => nI (xB t)) (show xs_wrong so wt le mo = false by unfold xs_wrong; (repeat' split) <;> simp <;> omega)).symm
  · skip
    refine xw_go xb_35 3 rfl trivial ?_
    refine xw_if (fun c_13 => ?_) (fun c_13 => ?_)
    · skip
      refine xw_go xb_35 1 rfl trivial ?_
      refine xw_ret xb_35 rfl rfl ?_ ?_
      · first | exact Or.inl rfl | exact Or.inr rfl
      refine ⟨xm_some (congrArg Value.int ?_), rfl⟩
      simp (disch := omega) only [xn_cl, hs, hl, hm, xl_2, xl_9, nI_leI, nI_ltI, nI_eq] at c_7 c_13
      first | exact (congrArg (fun t => nI (xB t)) (show xs_wrong so wt le mo = true by unfold xs_wrong; (repeat' split) <;> simp <;> omega)).symm | exact (congrArg (fun t => nI (xB t)) (show xs_wrong so wt le mo = false by unfold xs_wrong; (repeat' split) <;> simp <;> omega)).symm
    · skip
      refine xw_go xb_35 2 rfl trivial ?_
      refine xw_ret xb_35 rfl rfl ?_ ?_
      · first | exact Or.inl rfl | exact Or.inr rfl
      refine ⟨xm_some (congrArg Value.int ?_), rfl⟩
      simp (disch := omega) only [xn_cl, hs, hl, hm, xl_2, xl_9, nI_leI, nI_ltI, nI_eq] at c_7 c_13
      first | exact (congrArg (fun t => nI (xB t)) (show xs_wrong so wt le mo = true by unfold xs_wrong; (repeat' split) <;> simp <;> omega)).symm | exact (congrArg (fun t => nI (xB t)) (show xs_wrong so wt le mo = false by unfold xs_wrong; (repeat' split) <;> simp <;> omega)).symm
