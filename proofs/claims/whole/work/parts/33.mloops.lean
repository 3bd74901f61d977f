/-! ===== the model: minutes, counts, asides ===== -/
/-- a loop whose heap is only known by a property -/
theorem xw_loopP {d mi : Nat} {Q : Option Value → xm_H → Prop} (n : Nat) (F : Nat → xm_F) (V : Nat → xm_H → Prop) (hs : ∀ c h, c < n → V c h → (∀ h', V (c + 1) h' → xm_W d mi (F (c + 1)) h' Q) → xm_W d mi (F c) h Q) (he : ∀ h, V n h → xm_W d mi (F n) h Q) : ∀ c h, c ≤ n → V c h → xm_W d mi (F c) h Q := by
  have key : ∀ k c h, c + k = n → V c h → xm_W d mi (F c) h Q := by
    intro k
    induction k with
    | zero => intro c h hc hv; rw [show c = n by omega] at hv ⊢; exact he h hv
    | succ k ih => intro c h hc hv; exact hs c h (by omega) hv (fun h' hv' => ih (c + 1) h' (by omega) hv')
  intro c h hc hv
  exact key (n - c) c h (by omega) hv
theorem xro_congr {fv so so' : Nat → Nat} {R C : Nat} (h : ∀ j, j < R * C → so j = so' j) : ∀ r q, r ≤ R → q < C → xro fv so C r q = xro fv so' C r q
  | 0, _, _, _ => rfl
  | r + 1, q, hr, hq => by
    simp only [xro]
    rw [xro_congr h r q (by omega) hq, h _ (xrow_lt hr hq)]
theorem xtk_congr {fv so so' : Nat → Nat} {R C : Nat} (h : ∀ j, j < R * C → so j = so' j) (h0 : 0 < C) {c : Nat} (hc : c < R * C) : xtk fv so C c = xtk fv so' C c := by
  have h1 : c / C < R := (Nat.div_lt_iff_lt_mul h0).mpr hc
  unfold xtk
  rw [xro_congr h (c / C) (c % C) (by omega) (Nat.mod_lt _ h0), h c hc]
theorem xlost_congr {fv so so' : Nat → Nat} {R C : Nat} (h : ∀ j, j < R * C → so j = so' j) : xlost fv so R C = xlost fv so' R C := xsum_congr fun q hq => xro_congr h R q (Nat.le_refl R) hq
/-- n minutes, each with as much falling -/
def xgoN (N fv : Nat → Nat) (n : Nat) : Nat → Nat := fun k => if 95 ≤ k ∧ k < 95 + xce N then min 9999 (N k + n * xtk fv (xso N) (N 1) (k - 95)) else if k = 9 then min 999999 (N 9 + n * xlost fv (xso N) (N 0) (N 1)) else if k = 4 then N 4 + n else N k
theorem xgoN_lo (N fv : Nat → Nat) (n : Nat) {k : Nat} (h : k < 95) (h9 : k ≠ 9) (h4 : k ≠ 4) : xgoN N fv n k = N k := by
  unfold xgoN
  rw [if_neg (by omega), if_neg h9, if_neg h4]
theorem xgoN_ce (N fv : Nat → Nat) (n : Nat) : xce (xgoN N fv n) = xce N := by
  unfold xce
  rw [xgoN_lo N fv n (by decide) (by decide) (by decide), xgoN_lo N fv n (by decide) (by decide) (by decide)]
theorem xgoN_0 {N : Nat → Nat} (hO : xOK N) (fv : Nat → Nat) {k : Nat} (hk : k < 159) : xgoN N fv 0 k = N k := by
  unfold xgoN
  by_cases h : 95 ≤ k ∧ k < 95 + xce N
  · rw [if_pos h]
    have := hO.2.2.1 (k - 95) (by omega)
    rw [show 95 + (k - 95) = k by omega] at this
    omega
  · rw [if_neg h]
    by_cases h9 : k = 9
    · subst h9
      have := hO.1
      rw [if_pos rfl]
      omega
    · rw [if_neg h9]
      split
      · rename_i h4; rw [h4]; rfl
      · rfl
theorem xgoN_so {N : Nat → Nat} (hO : xOK N) (fv : Nat → Nat) (n : Nat) : ∀ j, j < N 0 * N 1 → xso (xgoN N fv n) j = xso N j := by
  intro j hj
  have c64 : N 0 * N 1 ≤ 64 := xce_le hO
  unfold xso
  exact xgoN_lo N fv n (by omega) (by omega) (by omega)
theorem xgoN_s {N : Nat → Nat} (hO : xOK N) (fv : Nat → Nat) (n k : Nat) : xgo (xgoN N fv n) fv k = xgoN N fv (n + 1) k := by
  have hb := hO.1
  have e0 : xgoN N fv n 0 = N 0 := xgoN_lo N fv n (by decide) (by decide) (by decide)
  have e1 : xgoN N fv n 1 = N 1 := xgoN_lo N fv n (by decide) (by decide) (by decide)
  have eso := xgoN_so hO fv n
  unfold xgo
  rw [xgoN_ce]
  by_cases h : 95 ≤ k ∧ k < 95 + xce N
  · rw [if_pos h, e1, xtk_congr (R := N 0) eso (by omega) (show k - 95 < N 0 * N 1 by have : xce N = N 0 * N 1 := rfl; omega)]
    unfold xgoN
    rw [if_pos h, if_pos h, Nat.succ_mul]
    omega
  · rw [if_neg h]
    by_cases h9 : k = 9
    · subst h9
      rw [if_pos rfl, e0, e1, xlost_congr eso]
      unfold xgoN
      rw [if_neg (by omega), if_pos rfl, if_neg (by omega), if_pos rfl, Nat.succ_mul]
      omega
    · rw [if_neg h9]
      by_cases h4 : k = 4
      · subst h4
        rw [if_pos rfl]
        unfold xgoN
        rw [if_neg (by omega), if_neg (by decide), if_pos rfl, if_neg (by omega), if_neg (by decide), if_pos rfl]
        omega
      · rw [if_neg h4]
        unfold xgoN
        rw [if_neg h, if_neg h9, if_neg h4, if_neg h, if_neg h9, if_neg h4]
theorem xgoN_ok {N : Nat → Nat} (hO : xOK N) (fv : Nat → Nat) {n : Nat} (h4 : N 4 + n < 1000000) : xOK (xgoN N fv n) := by
  have hb := hO.1
  have lo : ∀ k, k < 95 → k ≠ 9 → k ≠ 4 → xgoN N fv n k = N k := fun k h1 h2 h3 => xgoN_lo N fv n h1 h2 h3
  refine ⟨?_, fun c hc => ?_, fun c hc => ?_, fun i hi => ?_⟩
  · have e9 : xgoN N fv n 9 ≤ 999999 := by
      unfold xgoN
      rw [if_neg (by omega), if_pos rfl]
      omega
    have e4 : xgoN N fv n 4 < 1000000 := by
      unfold xgoN
      rw [if_neg (by omega), if_neg (by decide), if_pos rfl]
      exact h4
    rw [lo 0 (by decide) (by decide) (by decide), lo 1 (by decide) (by decide) (by decide), lo 2 (by decide) (by decide) (by decide), lo 3 (by decide) (by decide) (by decide), lo 5 (by decide) (by decide) (by decide), lo 6 (by decide) (by decide) (by decide), lo 7 (by decide) (by decide) (by decide), lo 8 (by decide) (by decide) (by decide), lo 10 (by decide) (by decide) (by decide)]
    omega
  · rw [lo _ (by omega) (by omega) (by omega)]
    exact hO.2.1 c hc
  · have := hO.2.2.1 c hc
    unfold xgoN
    split
    · omega
    · rw [if_neg (by omega), if_neg (by omega)]
      exact this
  · rw [lo 2 (by decide) (by decide) (by decide)] at hi
    rw [lo 0 (by decide) (by decide) (by decide), lo 1 (by decide) (by decide) (by decide), lo _ (by omega) (by omega) (by omega), lo _ (by omega) (by omega) (by omega), lo _ (by omega) (by omega) (by omega), lo _ (by omega) (by omega) (by omega)]
    exact hO.2.2.2 i hi
/-- how many are on -/
def xpc (v : Nat) : Nat := xcnt (fun i => v.testBit i) 5
theorem xpc_step : ∀ v, v < 32 → v ≠ 0 → (nI v &&& (nI v - 1) = nI (v &&& (v - 1)) ∧ (v &&& (v - 1)) < v ∧ xpc (v &&& (v - 1)) + 1 = xpc v) := by decide +kernel
theorem xpc_le : ∀ v, v < 32 → xpc v ≤ 5 := by decide +kernel
set_option maxHeartbeats 4000000 in
theorem m_goesOn {d : Nat} {b : Bool} {I : Nat → Nat → Int32} {L : Nat → Nat → Int64} {N : Nat → Nat} (hM : xMN N I) (hO : xOK N) {fv : Nat → Nat} (hf : ∀ j, j < N 0 * N 1 → I 62 j = nI (fv j)) (bf : ∀ j, j < N 0 * N 1 → fv j ≤ 1000) {n : Nat} (bn : N 4 + n < 1000000) {x1 : Int32} (e_x1 : x1 = nI n) : xm_Z (d + 3) 151 [.ref 60, .int x1] (xS b, I, L, xP b) (fun rz hz => rz = none ∧ ∃ X Y, hz = (xS b, va_up (va_up I 63 X) 61 Y, L, xP b) ∧ ∀ k, k < 159 → Y k = nI (xgoN N fv n k)) := by
  subst e_x1
  refine xw_S xb_151 (l := [.ref 60, .int (nI n), .float 0]) (Nat.le_of_ble_eq_true rfl) rfl ?_
  refine xw_go xb_151 2 (f1 := (2, [.ref 60, .int (nI n), .int 0], [])) (h1 := (xS b, I, L, xP b)) rfl trivial ?_
  refine xw_loopP n (fun k => (2, [.ref 60, .int (nI n), .int (nI k)], [])) (fun k h => ∃ X Y, h = (xS b, va_up (va_up I 63 X) 61 Y, L, xP b) ∧ ∀ j, j < 159 → Y j = nI (xgoN N fv k j)) ?_ ?_ 0 _ (Nat.zero_le _) ⟨I 63, I 61, ?_, ?_⟩
  · rintro k _ hk ⟨X, Y, rfl, hY⟩ ih
    refine xw_go xb_151 3 (f1 := (if (nI n) ≤ (nI k) then 17 else 7, [.ref 60, .int (nI n), .int (nI k)], [])) (h1 := (xS b, va_up (va_up I 63 X) 61 Y, L, xP b)) rfl trivial ?_
    refine xw_if (fun c_4 => ?_) (fun c_4 => ?_)
    · skip
      exfalso
      simp (disch := omega) only [nI_leI, nI_ltI] at c_4
      omega
    · skip
      refine xw_go xb_151 1 (f1 := (8, [.ref 60, .int (nI n), .int (nI k)], [.ref 60])) (h1 := (xS b, va_up (va_up I 63 X) 61 Y, L, xP b)) rfl trivial ?_
      refine xw_call xb_151 rfl rfl rfl rfl rfl (Or.inr ⟨_, _, rfl, rfl⟩) (m_goesBy (I := (va_up (va_up I 63 X) 61 Y)) (N := xgoN N fv k) (fun j hj => hY j hj) (xgoN_ok hO fv (by omega)) (fv := fv) (fun j hj => hf j (by rw [show xgoN N fv k 0 * xgoN N fv k 1 = N 0 * N 1 from xgoN_ce N fv k] at hj; exact hj)) (fun j hj => bf j (by rw [show xgoN N fv k 0 * xgoN N fv k 1 = N 0 * N 1 from xgoN_ce N fv k] at hj; exact hj))) ?_
      rintro _ _ ⟨rfl, X2, Y2, rfl, hY2⟩
      refine xw_at (f' := (11, [.ref 60, .int (nI n), .int (nI k)], [])) (h' := (xS b, va_up (va_up (va_up (va_up I 63 X) 61 Y) 63 X2) 61 Y2, L, xP b)) rfl rfl ?_
      refine xw_go xb_151 2 (f1 := (2, [.ref 60, .int (nI n), .int ((nI k) + 1)], [])) (h1 := (xS b, va_up (va_up (va_up (va_up I 63 X) 61 Y) 63 X2) 61 Y2, L, xP b)) rfl trivial ?_
      refine xw_at (f' := (2, [.ref 60, .int (nI n), .int (nI (k + 1))], [])) (h' := (xS b, va_up (va_up I 63 X2) 61 Y2, L, xP b)) (by rw [nI_1]) ?_ (ih _ ⟨X2, Y2, rfl, fun j hj => ?_⟩)
      · refine congrArg (fun Z => (xS b, Z, L, xP b)) ?_
        funext a
        by_cases h1 : a = 61
        · subst h1; simp [va_up]
        · by_cases h3 : a = 63
          · subst h3; simp [va_up]
          · simp [va_up, h1, h3]
      · rw [hY2 j hj, xgoN_s hO]
  · rintro _ ⟨X, Y, rfl, hY⟩
    refine xw_go xb_151 3 (f1 := (if (nI n) ≤ (nI n) then 17 else 7, [.ref 60, .int (nI n), .int (nI n)], [])) (h1 := (xS b, va_up (va_up I 63 X) 61 Y, L, xP b)) rfl trivial ?_
    refine xw_if (fun c_4 => ?_) (fun c_4 => ?_)
    · skip
      refine xw_ret xb_151 rfl rfl trivial ?_
      exact ⟨rfl, X, Y, rfl, hY⟩
    · skip
      exfalso
      simp (disch := omega) only [nI_leI, nI_ltI] at c_4
      omega
  · rw [xm_up_id]
    show _ = (xS b, va_up I 61 (I 61), L, xP b)
    rw [xm_up_id]
  · intro j hj
    rw [hM j hj, xgoN_0 hO fv hj]

theorem m_isDry {d : Nat} {b : Bool} {I : Nat → Nat → Int32} {L : Nat → Nat → Int64} {N : Nat → Nat} (hM : xMN N I) (hO : xOK N) {c : Nat} (bc : c < 64) {x1 : Int32} (e_x1 : x1 = nI c) : xm_Z (d + 1) 126 [.ref 60, .int x1] (xS b, I, L, xP b) (fun rz hz => rz = some (.int (nI (xB (xs_dry (N (31 + c)) (N (95 + c)) (N 7))))) ∧ hz = (xS b, I, L, xP b)) := by
  subst e_x1
  have h31 : 31 + c < 159 := by omega
  have h95 : 95 + c < 159 := by omega
  have b1 := hO.2.1 c bc
  have b2 := hO.2.2.1 c bc
  have b3 := hO.1
  refine xw_S xb_126 (l := [.ref 60, .int (nI c)]) (Nat.le_of_ble_eq_true rfl) rfl ?_
  refine xw_go xb_126 8 (f1 := (if 2 ≤ (I 61 (31 + (nI c)).toNatClampNeg) then 36 else 13, [.ref 60, .int (nI c)], [])) (h1 := (xS b, I, L, xP b)) rfl ⟨rfl, (by show xm_ar _ 61 0 (31 + nI c); rw [xl_31, nI_add]; exact xn_ar (N := 159) rfl (by omega) (by decide)), trivial⟩ ?_
  refine xw_if (fun c_10 => ?_) (fun c_10 => ?_)
  · skip
    refine xw_go xb_126 1 (f1 := (37, [.ref 60, .int (nI c)], [.int 0])) (h1 := (xS b, I, L, xP b)) rfl trivial ?_
    refine xw_ret xb_126 rfl rfl ?_ ?_
    · first | exact Or.inl rfl | exact Or.inr rfl
    refine ⟨xm_some (congrArg Value.int ?_), rfl⟩
    simp (disch := omega) only [xl_31, xl_95, nI_add, xn_cl, show (7 : Int32).toNatClampNeg = 7 from rfl, show (8 : Int32).toNatClampNeg = 8 from rfl, hM _ h31, hM _ h95, hM 7 (by decide), hM 8 (by decide), xl_2, xl_9, nI_leI, nI_ltI, nI_eq] at c_10
    first | exact (congrArg (fun t => nI (xB t)) (show xs_dry (N (31 + c)) (N (95 + c)) (N 7) = true by unfold xs_dry; (repeat' split) <;> simp <;> omega)).symm | exact (congrArg (fun t => nI (xB t)) (show xs_dry (N (31 + c)) (N (95 + c)) (N 7) = false by unfold xs_dry; (repeat' split) <;> simp <;> omega)).symm
  · skip
    refine xw_go xb_126 11 (f1 := (if (I 61 (7 : Int32).toNatClampNeg) ≤ (I 61 (95 + (nI c)).toNatClampNeg) then 36 else 32, [.ref 60, .int (nI c)], [])) (h1 := (xS b, I, L, xP b)) rfl ⟨rfl, (by show xm_ar _ 61 0 (95 + nI c); rw [xl_95, nI_add]; exact xn_ar (N := 159) rfl (by omega) (by decide)), rfl, (xn_ar (n := 7) (N := 159) rfl (by decide) (by decide)), trivial⟩ ?_
    refine xw_if (fun c_29 => ?_) (fun c_29 => ?_)
    · skip
      refine xw_go xb_126 1 (f1 := (37, [.ref 60, .int (nI c)], [.int 0])) (h1 := (xS b, I, L, xP b)) rfl trivial ?_
      refine xw_ret xb_126 rfl rfl ?_ ?_
      · first | exact Or.inl rfl | exact Or.inr rfl
      refine ⟨xm_some (congrArg Value.int ?_), rfl⟩
      simp (disch := omega) only [xl_31, xl_95, nI_add, xn_cl, show (7 : Int32).toNatClampNeg = 7 from rfl, show (8 : Int32).toNatClampNeg = 8 from rfl, hM _ h31, hM _ h95, hM 7 (by decide), hM 8 (by decide), xl_2, xl_9, nI_leI, nI_ltI, nI_eq] at c_10 c_29
      first | exact (congrArg (fun t => nI (xB t)) (show xs_dry (N (31 + c)) (N (95 + c)) (N 7) = true by unfold xs_dry; (repeat' split) <;> simp <;> omega)).symm | exact (congrArg (fun t => nI (xB t)) (show xs_dry (N (31 + c)) (N (95 + c)) (N 7) = false by unfold xs_dry; (repeat' split) <;> simp <;> omega)).symm
    · skip
      refine xw_go xb_126 2 (f1 := (37, [.ref 60, .int (nI c)], [.int 1])) (h1 := (xS b, I, L, xP b)) rfl trivial ?_
      refine xw_ret xb_126 rfl rfl ?_ ?_
      · first | exact Or.inl rfl | exact Or.inr rfl
      refine ⟨xm_some (congrArg Value.int ?_), rfl⟩
      simp (disch := omega) only [xl_31, xl_95, nI_add, xn_cl, show (7 : Int32).toNatClampNeg = 7 from rfl, show (8 : Int32).toNatClampNeg = 8 from rfl, hM _ h31, hM _ h95, hM 7 (by decide), hM 8 (by decide), xl_2, xl_9, nI_leI, nI_ltI, nI_eq] at c_10 c_29
      first | exact (congrArg (fun t => nI (xB t)) (show xs_dry (N (31 + c)) (N (95 + c)) (N 7) = true by unfold xs_dry; (repeat' split) <;> simp <;> omega)).symm | exact (congrArg (fun t => nI (xB t)) (show xs_dry (N (31 + c)) (N (95 + c)) (N 7) = false by unfold xs_dry; (repeat' split) <;> simp <;> omega)).symm

theorem m_isWrong {d : Nat} {b : Bool} {I : Nat → Nat → Int32} {L : Nat → Nat → Int64} {N : Nat → Nat} (hM : xMN N I) (hO : xOK N) {c : Nat} (bc : c < 64) {x1 : Int32} (e_x1 : x1 = nI c) : xm_Z (d + 2) 125 [.ref 60, .int x1] (xS b, I, L, xP b) (fun rz hz => rz = some (.int (nI (xB (xs_wrong (N (31 + c)) (N (95 + c)) (N 7) (N 8))))) ∧ hz = (xS b, I, L, xP b)) := by
  subst e_x1
  have h31 : 31 + c < 159 := by omega
  have h95 : 95 + c < 159 := by omega
  have b1 := hO.2.1 c bc
  have b2 := hO.2.2.1 c bc
  have b3 := hO.1
  refine xw_S xb_125 (l := [.ref 60, .int (nI c)]) (Nat.le_of_ble_eq_true rfl) rfl ?_
  refine xw_go xb_125 8 (f1 := (if ¬ (I 61 (31 + (nI c)).toNatClampNeg) = 2 then 35 else 13, [.ref 60, .int (nI c)], [])) (h1 := (xS b, I, L, xP b)) rfl ⟨rfl, (by show xm_ar _ 61 0 (31 + nI c); rw [xl_31, nI_add]; exact xn_ar (N := 159) rfl (by omega) (by decide)), trivial⟩ ?_
  refine xw_if (fun c_10 => ?_) (fun c_10 => ?_)
  · skip
    refine xw_go xb_125 2 (f1 := (37, [.ref 60, .int (nI c)], [.int (nI c), .ref 60])) (h1 := (xS b, I, L, xP b)) rfl trivial ?_
    refine xw_call xb_125 rfl rfl rfl rfl rfl (Or.inr ⟨_, _, rfl, rfl⟩) (m_isDry hM hO bc rfl) ?_
    rintro _ _ ⟨rfl, rfl⟩
    refine xw_at (f' := (40, [.ref 60, .int (nI c)], [.int (nI (xB (xs_dry (N (31 + c)) (N (95 + c)) (N 7))))])) (h' := (xS b, I, L, xP b)) rfl rfl ?_
    refine xw_go xb_125 1 (f1 := (if ¬ (nI (xB (xs_dry (N (31 + c)) (N (95 + c)) (N 7)))) = 0 then 62 else 43, [.ref 60, .int (nI c)], [])) (h1 := (xS b, I, L, xP b)) rfl trivial ?_
    refine xw_if (fun c_40 => ?_) (fun c_40 => ?_)
    · skip
      refine xw_go xb_125 2 (f1 := (67, [.ref 60, .int (nI c)], [.int 1])) (h1 := (xS b, I, L, xP b)) rfl trivial ?_
      refine xw_ret xb_125 rfl rfl ?_ ?_
      · first | exact Or.inl rfl | exact Or.inr rfl
      refine ⟨xm_some (congrArg Value.int ?_), rfl⟩
      simp (disch := omega) only [xl_31, xl_95, nI_add, xn_cl, show (7 : Int32).toNatClampNeg = 7 from rfl, show (8 : Int32).toNatClampNeg = 8 from rfl, hM _ h31, hM _ h95, hM 7 (by decide), hM 8 (by decide), xB_eq0, xl_2, xl_9, nI_leI, nI_ltI, nI_eq] at c_10 c_40
      try (have hdry : (xs_dry (N (31 + c)) (N (95 + c)) (N 7)) = true := by simpa using c_40)
      try simp only [xs_dry, Bool.and_eq_true, Bool.not_eq_true', decide_eq_false_iff_not, decide_eq_true_eq] at hdry
      try (simp only [Decidable.not_not] at c_40)
      try simp only [xs_dry, Bool.and_eq_false_iff, Bool.not_eq_false', decide_eq_false_iff_not, decide_eq_true_eq] at c_40
      first | exact (congrArg (fun t => nI (xB t)) (show xs_wrong (N (31 + c)) (N (95 + c)) (N 7) (N 8) = true by unfold xs_wrong; (repeat' split) <;> simp <;> omega)).symm | exact (congrArg (fun t => nI (xB t)) (show xs_wrong (N (31 + c)) (N (95 + c)) (N 7) (N 8) = false by unfold xs_wrong; (repeat' split) <;> simp <;> omega)).symm
    · skip
      refine xw_go xb_125 11 (f1 := (if (I 61 (95 + (nI c)).toNatClampNeg) ≤ (I 61 (8 : Int32).toNatClampNeg) then 66 else 62, [.ref 60, .int (nI c)], [])) (h1 := (xS b, I, L, xP b)) rfl ⟨rfl, (by show xm_ar _ 61 0 (95 + nI c); rw [xl_95, nI_add]; exact xn_ar (N := 159) rfl (by omega) (by decide)), rfl, (xn_ar (n := 8) (N := 159) rfl (by decide) (by decide)), trivial⟩ ?_
      refine xw_if (fun c_59 => ?_) (fun c_59 => ?_)
      · skip
        refine xw_go xb_125 1 (f1 := (67, [.ref 60, .int (nI c)], [.int 0])) (h1 := (xS b, I, L, xP b)) rfl trivial ?_
        refine xw_ret xb_125 rfl rfl ?_ ?_
        · first | exact Or.inl rfl | exact Or.inr rfl
        refine ⟨xm_some (congrArg Value.int ?_), rfl⟩
        simp (disch := omega) only [xl_31, xl_95, nI_add, xn_cl, show (7 : Int32).toNatClampNeg = 7 from rfl, show (8 : Int32).toNatClampNeg = 8 from rfl, hM _ h31, hM _ h95, hM 7 (by decide), hM 8 (by decide), xB_eq0, xl_2, xl_9, nI_leI, nI_ltI, nI_eq] at c_10 c_40 c_59
        try (have hdry : (xs_dry (N (31 + c)) (N (95 + c)) (N 7)) = true := by simpa using c_40)
        try simp only [xs_dry, Bool.and_eq_true, Bool.not_eq_true', decide_eq_false_iff_not, decide_eq_true_eq] at hdry
        try (simp only [Decidable.not_not] at c_40)
        try simp only [xs_dry, Bool.and_eq_false_iff, Bool.not_eq_false', decide_eq_false_iff_not, decide_eq_true_eq] at c_40
        first | exact (congrArg (fun t => nI (xB t)) (show xs_wrong (N (31 + c)) (N (95 + c)) (N 7) (N 8) = true by unfold xs_wrong; (repeat' split) <;> simp <;> omega)).symm | exact (congrArg (fun t => nI (xB t)) (show xs_wrong (N (31 + c)) (N (95 + c)) (N 7) (N 8) = false by unfold xs_wrong; (repeat' split) <;> simp <;> omega)).symm
      · skip
        refine xw_go xb_125 2 (f1 := (67, [.ref 60, .int (nI c)], [.int 1])) (h1 := (xS b, I, L, xP b)) rfl trivial ?_
        refine xw_ret xb_125 rfl rfl ?_ ?_
        · first | exact Or.inl rfl | exact Or.inr rfl
        refine ⟨xm_some (congrArg Value.int ?_), rfl⟩
        simp (disch := omega) only [xl_31, xl_95, nI_add, xn_cl, show (7 : Int32).toNatClampNeg = 7 from rfl, show (8 : Int32).toNatClampNeg = 8 from rfl, hM _ h31, hM _ h95, hM 7 (by decide), hM 8 (by decide), xB_eq0, xl_2, xl_9, nI_leI, nI_ltI, nI_eq] at c_10 c_40 c_59
        try (have hdry : (xs_dry (N (31 + c)) (N (95 + c)) (N 7)) = true := by simpa using c_40)
        try simp only [xs_dry, Bool.and_eq_true, Bool.not_eq_true', decide_eq_false_iff_not, decide_eq_true_eq] at hdry
        try (simp only [Decidable.not_not] at c_40)
        try simp only [xs_dry, Bool.and_eq_false_iff, Bool.not_eq_false', decide_eq_false_iff_not, decide_eq_true_eq] at c_40
        first | exact (congrArg (fun t => nI (xB t)) (show xs_wrong (N (31 + c)) (N (95 + c)) (N 7) (N 8) = true by unfold xs_wrong; (repeat' split) <;> simp <;> omega)).symm | exact (congrArg (fun t => nI (xB t)) (show xs_wrong (N (31 + c)) (N (95 + c)) (N 7) (N 8) = false by unfold xs_wrong; (repeat' split) <;> simp <;> omega)).symm
  · skip
    refine xw_go xb_125 8 (f1 := (if (I 61 (95 + (nI c)).toNatClampNeg) ≤ 9 then 31 else 27, [.ref 60, .int (nI c)], [])) (h1 := (xS b, I, L, xP b)) rfl ⟨rfl, (by show xm_ar _ 61 0 (95 + nI c); rw [xl_95, nI_add]; exact xn_ar (N := 159) rfl (by omega) (by decide)), trivial⟩ ?_
    refine xw_if (fun c_24 => ?_) (fun c_24 => ?_)
    · skip
      refine xw_go xb_125 2 (f1 := (67, [.ref 60, .int (nI c)], [.int 0])) (h1 := (xS b, I, L, xP b)) rfl trivial ?_
      refine xw_ret xb_125 rfl rfl ?_ ?_
      · first | exact Or.inl rfl | exact Or.inr rfl
      refine ⟨xm_some (congrArg Value.int ?_), rfl⟩
      simp (disch := omega) only [xl_31, xl_95, nI_add, xn_cl, show (7 : Int32).toNatClampNeg = 7 from rfl, show (8 : Int32).toNatClampNeg = 8 from rfl, hM _ h31, hM _ h95, hM 7 (by decide), hM 8 (by decide), xB_eq0, xl_2, xl_9, nI_leI, nI_ltI, nI_eq] at c_10 c_24
      try (have hdry : (xs_dry (N (31 + c)) (N (95 + c)) (N 7)) = true := by simpa using c_40)
      try simp only [xs_dry, Bool.and_eq_true, Bool.not_eq_true', decide_eq_false_iff_not, decide_eq_true_eq] at hdry
      try (simp only [Decidable.not_not] at c_40)
      try simp only [xs_dry, Bool.and_eq_false_iff, Bool.not_eq_false', decide_eq_false_iff_not, decide_eq_true_eq] at c_40
      first | exact (congrArg (fun t => nI (xB t)) (show xs_wrong (N (31 + c)) (N (95 + c)) (N 7) (N 8) = true by unfold xs_wrong; (repeat' split) <;> simp <;> omega)).symm | exact (congrArg (fun t => nI (xB t)) (show xs_wrong (N (31 + c)) (N (95 + c)) (N 7) (N 8) = false by unfold xs_wrong; (repeat' split) <;> simp <;> omega)).symm
    · skip
      refine xw_go xb_125 2 (f1 := (67, [.ref 60, .int (nI c)], [.int 1])) (h1 := (xS b, I, L, xP b)) rfl trivial ?_
      refine xw_ret xb_125 rfl rfl ?_ ?_
      · first | exact Or.inl rfl | exact Or.inr rfl
      refine ⟨xm_some (congrArg Value.int ?_), rfl⟩
      simp (disch := omega) only [xl_31, xl_95, nI_add, xn_cl, show (7 : Int32).toNatClampNeg = 7 from rfl, show (8 : Int32).toNatClampNeg = 8 from rfl, hM _ h31, hM _ h95, hM 7 (by decide), hM 8 (by decide), xB_eq0, xl_2, xl_9, nI_leI, nI_ltI, nI_eq] at c_10 c_24
      try (have hdry : (xs_dry (N (31 + c)) (N (95 + c)) (N 7)) = true := by simpa using c_40)
      try simp only [xs_dry, Bool.and_eq_true, Bool.not_eq_true', decide_eq_false_iff_not, decide_eq_true_eq] at hdry
      try (simp only [Decidable.not_not] at c_40)
      try simp only [xs_dry, Bool.and_eq_false_iff, Bool.not_eq_false', decide_eq_false_iff_not, decide_eq_true_eq] at c_40
      first | exact (congrArg (fun t => nI (xB t)) (show xs_wrong (N (31 + c)) (N (95 + c)) (N 7) (N 8) = true by unfold xs_wrong; (repeat' split) <;> simp <;> omega)).symm | exact (congrArg (fun t => nI (xB t)) (show xs_wrong (N (31 + c)) (N (95 + c)) (N 7) (N 8) = false by unfold xs_wrong; (repeat' split) <;> simp <;> omega)).symm

