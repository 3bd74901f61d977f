/-! ===== a lawn begins, a sprinkler comes ===== -/
theorem xP_77 {p : Nat} (h : p < 5) : xP true 77 p = some (88 + p) := by
  match p, h with
  | 0, _ => rfl
  | 1, _ => rfl
  | 2, _ => rfl
  | 3, _ => rfl
  | 4, _ => rfl
theorem xS_88 {p : Nat} (h : p < 5) : (xS true)[88 + p]? = some (11, 4) := by
  match p, h with
  | 0, _ => rfl
  | 1, _ => rfl
  | 2, _ => rfl
  | 3, _ => rfl
  | 4, _ => rfl
theorem xP_79 {p : Nat} (h : p < 8) : xP true 79 p = some (80 + p) := by
  match p, h with
  | 0, _ => rfl
  | 1, _ => rfl
  | 2, _ => rfl
  | 3, _ => rfl
  | 4, _ => rfl
  | 5, _ => rfl
  | 6, _ => rfl
  | 7, _ => rfl
theorem xS_80 {p : Nat} (h : p < 8) : (xS true)[80 + p]? = some (0, 72) := by
  match p, h with
  | 0, _ => rfl
  | 1, _ => rfl
  | 2, _ => rfl
  | 3, _ => rfl
  | 4, _ => rfl
  | 5, _ => rfl
  | 6, _ => rfl
  | 7, _ => rfl
/-- the answer, and what a call on the plot leaves -/
def xQC (b : Bool) (I : Nat → Nat → Int32) (L : Nat → Nat → Int64) (v : Int32) (N : Nat → Nat) (u : Nat) (U : Nat → Nat → Nat) (rz : Option Value) (hz : xm_H) : Prop := rz = some (.int v) ∧ ∃ I', hz = (xS b, I', L, xP b) ∧ xPF I I' ∧ xPL N u U 1 I'
def xQM (b : Bool) (I : Nat → Nat → Int32) (L : Nat → Nat → Int64) (v : Int32) (N : Nat → Nat) (u : Nat) (U : Nat → Nat → Nat) (rz : Option Value) (hz : xm_H) : Prop := rz = some (.int v) ∧ ∃ I', hz = (xS b, I', L, xP b) ∧ xMF I I' ∧ xML N u U I'
theorem xQC_same {b : Bool} {I : Nat → Nat → Int32} {L : Nat → Nat → Int64} {v : Int32} {N : Nat → Nat} {u : Nat} {U : Nat → Nat → Nat} (hP : xPL N u U 1 I) : xQC b I L v N u U (some (.int v)) (xS b, I, L, xP b) := ⟨rfl, I, rfl, xPF_r I, hP⟩
theorem xQM_same {b : Bool} {I : Nat → Nat → Int32} {L : Nat → Nat → Int64} {v : Int32} {N : Nat → Nat} {u : Nat} {U : Nat → Nat → Nat} (hP : xML N u U I) : xQM b I L v N u U (some (.int v)) (xS b, I, L, xP b) := ⟨rfl, I, rfl, xMF_r I, hP⟩
/-- a lawn as it begins -/
def xnw (N : Nat → Nat) (r c : Nat) : Nat → Nat := fun k => if k = 0 then r else if k = 1 then c else if k = 2 ∨ k = 3 ∨ k = 4 ∨ k = 9 ∨ 31 ≤ k then 0 else N k
/-- with one sprinkler more -/
def xadd (N : Nat → Nat) (k pl re pw : Nat) : Nat → Nat := fun j => if j = 2 then N 2 + 1 else if j = 11 + 4 * N 2 then k else if j = 12 + 4 * N 2 then pl else if j = 13 + 4 * N 2 then re else if j = 14 + 4 * N 2 then pw else N j
theorem xadd_o {N : Nat → Nat} {k pl re pw j : Nat} (h2 : j ≠ 2) (h : j < 11 + 4 * N 2 ∨ 15 + 4 * N 2 ≤ j) : xadd N k pl re pw j = N j := by
  unfold xadd
  rw [if_neg h2, if_neg (by omega), if_neg (by omega), if_neg (by omega), if_neg (by omega)]
theorem xPN_add {N : Nat → Nat} {p : Nat} {I : Nat → Nat → Int32} {k pl re pw : Nat} (hn : N 2 < 5) (hN : xPN N p I) {y : Int32} (hy : y = nI (N 2 + 1)) : xPN (xadd N k pl re pw) p (xm_up (xm_up (xm_up (xm_up (xm_up I (p + 14 + N 2) 0 (nI k)) (p + 14 + N 2) 1 (nI pl)) (p + 14 + N 2) 2 (nI re)) (p + 14 + N 2) 3 (nI pw)) p 5 y) := by
  subst hy
  have e2 : xadd N k pl re pw 2 = N 2 + 1 := rfl
  rw [xPN_iff (by omega), e2]
  intro j hj hr
  have h0 := (xPN_iff (by omega)).mp hN j hj
  by_cases h2 : j = 2
  · subst h2
    rw [e2]
    exact xm_up_at _ _ _ _
  by_cases hq : j < 11 + 4 * N 2 ∨ 15 + 4 * N 2 ≤ j
  · rw [xadd_o h2 hq, ← h0 (by omega)]
    have e1 : xrow p j ≠ p + 14 + N 2 := by
      unfold xrow
      (repeat' split) <;> omega
    rw [xm_up_ne, xm_up_ne (Or.inl e1), xm_up_ne (Or.inl e1), xm_up_ne (Or.inl e1), xm_up_ne (Or.inl e1)]
    by_cases h3 : xrow p j = p
    · exact Or.inr fun h4 => h2 (xloc_inj (p := p) (show xrow p j = xrow p 2 from h3) h4)
    · exact Or.inl h3
  · have r1 : xrow p j = p + 14 + N 2 := by
      unfold xrow
      rw [if_neg (by omega), if_pos (by omega)]
      omega
    have r2 : xcol j = j - 11 - 4 * N 2 := by
      unfold xcol
      rw [if_neg (by omega), if_pos (by omega)]
      omega
    rw [r1, r2, xm_up_ne (Or.inl (by omega))]
    unfold xadd
    rw [if_neg h2]
    by_cases h3 : j = 11 + 4 * N 2
    · rw [if_pos h3, show j - 11 - 4 * N 2 = 0 by omega, xm_up_ne (Or.inr (by decide)), xm_up_ne (Or.inr (by decide)), xm_up_ne (Or.inr (by decide)), xm_up_at]
    · rw [if_neg h3]
      by_cases h4 : j = 12 + 4 * N 2
      · rw [if_pos h4, show j - 11 - 4 * N 2 = 1 by omega, xm_up_ne (Or.inr (by decide)), xm_up_ne (Or.inr (by decide)), xm_up_at]
      · rw [if_neg h4]
        by_cases h5 : j = 13 + 4 * N 2
        · rw [if_pos h5, show j - 11 - 4 * N 2 = 2 by omega, xm_up_ne (Or.inr (by decide)), xm_up_at]
        · rw [if_neg h5, if_pos (by omega), show j - 11 - 4 * N 2 = 3 by omega, xm_up_at]
theorem xPN_b {N : Nat → Nat} {p r c : Nat} {I I' : Nat → Nat → Int32} (hN : xPN N p I) (h0 : I' p 0 = nI r) (h1 : I' p 1 = nI c) (h5 : I' p 5 = 0) (h6 : I' p 6 = 0) (h11 : I' p 11 = 0) (h12 : I' p 12 = 0) (hk : ∀ k, k ≠ 0 → k ≠ 1 → k ≠ 5 → k ≠ 6 → k ≠ 11 → k ≠ 12 → I' p k = I p k) (hs : ∀ c, c < 64 → I' (p + 1) c = 0) (hw : ∀ c, c < 64 → I' (p + 2) c = 0) : xPN (xnw N r c) p I' := by
  obtain ⟨⟨a0, a1, a2, a3, a4, a5, a6, a7, a8, a9, a10⟩, b1, b2, b3⟩ := hN
  refine ⟨⟨h0, h1, h5, h6, h11, ?_, ?_, ?_, ?_, h12, ?_⟩, fun c hc => ?_, fun c hc => ?_, fun i hi => absurd hi (Nat.not_lt_zero i)⟩
  · rw [hk 7 (by decide) (by decide) (by decide) (by decide) (by decide) (by decide)]; exact a5
  · rw [hk 8 (by decide) (by decide) (by decide) (by decide) (by decide) (by decide)]; exact a6
  · rw [hk 9 (by decide) (by decide) (by decide) (by decide) (by decide) (by decide)]; exact a7
  · rw [hk 10 (by decide) (by decide) (by decide) (by decide) (by decide) (by decide)]; exact a8
  · rw [hk 13 (by decide) (by decide) (by decide) (by decide) (by decide) (by decide)]; exact a10
  · rw [hs c hc]
    unfold xnw
    rw [if_neg (by omega), if_neg (by omega), if_pos (by omega)]
    rfl
  · rw [hw c hc]
    unfold xnw
    rw [if_neg (by omega), if_neg (by omega), if_pos (by omega)]
    rfl
theorem xnw_ok {N : Nat → Nat} {r c : Nat} (hO : xOK N) (hr : 2 ≤ r ∧ r ≤ 8) (hc : 2 ≤ c ∧ c ≤ 8) : xOK (xnw N r c) := by
  have hb := hO.1
  refine ⟨⟨hr.1, hr.2, hc.1, hc.2, Nat.zero_le _, Nat.one_pos, ?_, ?_, ?_, ?_, ?_, ?_, ?_, ?_⟩, fun k hk => ?_, fun k hk => ?_, fun i hi => absurd hi (Nat.not_lt_zero i)⟩
  · exact (by decide : 0 < 1000000)
  · show N 5 ≤ 3; omega
  · show 1 ≤ N 6; omega
  · show N 6 ≤ 5; omega
  · show N 7 ≤ 999; omega
  · show N 8 ≤ 999; omega
  · exact Nat.zero_le _
  · show N 10 < 2 ^ 31; omega
  · unfold xnw
    rw [if_neg (by omega), if_neg (by omega), if_pos (by omega)]
    decide
  · unfold xnw
    rw [if_neg (by omega), if_neg (by omega), if_pos (by omega)]
    decide
theorem xnw_uk {N : Nat → Nat} {r c : Nat} {U : Nat → Nat → Nat} (hO : xOK N) (hr : 2 ≤ r ∧ r ≤ 8) (hc : 2 ≤ c ∧ c ≤ 8) : xUK (xnw N r c) 0 U := ⟨xnw_ok hO hr hc, Nat.zero_le _, Nat.zero_le _, fun j hj => absurd hj (Nat.not_lt_zero j)⟩
theorem xadd_ok {N : Nat → Nat} {k pl re pw : Nat} (hO : xOK N) (h5 : N 2 < 5) (hk : k < 5) (hp : pl < N 0 * N 1) (hr : re < 5) (hw : 1 ≤ pw ∧ pw < 10) : xOK (xadd N k pl re pw) := by
  have hb := hO.1
  have e : ∀ j, j ≠ 2 → j < 11 ∨ 31 ≤ j → xadd N k pl re pw j = N j := fun j h2 h => xadd_o h2 (by omega)
  have e2 : xadd N k pl re pw 2 = N 2 + 1 := rfl
  refine ⟨?_, fun c hc => ?_, fun c hc => ?_, fun i hi => ?_⟩
  · rw [e 0 (by decide) (by omega), e 1 (by decide) (by omega), e2, e 3 (by decide) (by omega), e 4 (by decide) (by omega), e 5 (by decide) (by omega), e 6 (by decide) (by omega), e 7 (by decide) (by omega), e 8 (by decide) (by omega), e 9 (by decide) (by omega), e 10 (by decide) (by omega)]
    have := Nat.pow_succ (n := 2) (m := N 2)
    omega
  · rw [e _ (by omega) (by omega)]; exact hO.2.1 c hc
  · rw [e _ (by omega) (by omega)]; exact hO.2.2.1 c hc
  · rw [e 0 (by decide) (by omega), e 1 (by decide) (by omega)]
    rw [e2] at hi
    by_cases hq : i < N 2
    · rw [xadd_o (by omega) (by omega), xadd_o (by omega) (by omega), xadd_o (by omega) (by omega), xadd_o (by omega) (by omega)]
      exact hO.2.2.2 i hq
    · have : i = N 2 := by omega
      subst this
      unfold xadd
      simp only [show 11 + 4 * N 2 ≠ 2 by omega, show 12 + 4 * N 2 ≠ 2 by omega, show 13 + 4 * N 2 ≠ 2 by omega, show 14 + 4 * N 2 ≠ 2 by omega, show 12 + 4 * N 2 ≠ 11 + 4 * N 2 by omega, show 13 + 4 * N 2 ≠ 11 + 4 * N 2 by omega, show 14 + 4 * N 2 ≠ 11 + 4 * N 2 by omega, show 13 + 4 * N 2 ≠ 12 + 4 * N 2 by omega, show 14 + 4 * N 2 ≠ 12 + 4 * N 2 by omega, show 14 + 4 * N 2 ≠ 13 + 4 * N 2 by omega, if_true, if_false]
      exact ⟨hk, hp, hr, hw.1, hw.2⟩
theorem xadd_uk {N : Nat → Nat} {k pl re pw : Nat} {U : Nat → Nat → Nat} (hO : xOK N) (h4 : N 4 ≤ 9999) (h5 : N 2 < 5) (hk : k < 5) (hp : pl < N 0 * N 1) (hr : re < 5) (hw : 1 ≤ pw ∧ pw < 10) : xUK (xadd N k pl re pw) 0 U := ⟨xadd_ok hO h5 hk hp hr hw, by rw [xadd_o (by decide) (by omega)]; exact h4, Nat.zero_le _, fun j hj => absurd hj (Nat.not_lt_zero j)⟩
theorem c_become {d : Nat} {S : List (Nat × Nat)} {I : Nat → Nat → Int32} {L : Nat → Nat → Int64} {P : Nat → Nat → Option Nat} {a : Nat} {x1 x2 x3 x4 : Int32} (ho : S[a]? = some (11, 4)) : xm_Z (d + 1) 18 [.ref a, .int x1, .int x2, .int x3, .int x4] (S, I, L, P) (fun rz hz => rz = none ∧ hz = (S, xm_up (xm_up (xm_up (xm_up I a 0 x1) a 1 x2) a 2 x3) a 3 x4, L, P)) := by
  refine xw_S xb_18 (l := [.ref a, .int x1, .int x2, .int x3, .int x4]) (Nat.le_of_ble_eq_true rfl) rfl ?_
  refine xw_go xb_18 12 (f1 := (21, [.ref a, .int x1, .int x2, .int x3, .int x4], [])) (h1 := (S, xm_up (xm_up (xm_up (xm_up I a 0 x1) a 1 x2) a 2 x3) a 3 x4, L, P)) rfl ⟨ho, ho, ho, ho, trivial⟩ ?_
  refine xw_ret xb_18 rfl rfl trivial ?_
  exact ⟨rfl, rfl⟩

theorem c_begin1 {d : Nat} {b : Bool} {I : Nat → Nat → Int32} {L : Nat → Nat → Int64} {x y : Int32} : xm_Z (d + 2) 11 [.ref 1, .int x, .int y] (xS b, I, L, xP b) (fun rz hz => rz = none ∧ ∃ I', hz = (xS b, I', L, xP b) ∧ xfr [1, 2, 3, 5] I I' ∧ I' 1 0 = x ∧ I' 1 1 = y ∧ I' 1 5 = 0 ∧ I' 1 6 = 0 ∧ I' 1 11 = 0 ∧ I' 1 12 = 0 ∧ (∀ k, k ≠ 0 → k ≠ 1 → k ≠ 5 → k ≠ 6 → k ≠ 11 → k ≠ 12 → I' 1 k = I 1 k) ∧ (∀ c, c < 64 → I' 2 c = 0) ∧ (∀ c, c < 64 → I' 3 c = 0) ∧ I' 5 1 = 0 ∧ ∀ k, k ≠ 1 → I' 5 k = I 5 k) := by
  refine xw_S xb_11 (l := [.ref 1, .int x, .int y]) (Nat.le_of_ble_eq_true rfl) rfl ?_
  refine xw_go xb_11 9 (f1 := (15, [.ref 1, .int x, .int y], [.int 0, .ref 2])) (h1 := (xS b, xm_up (xm_up I 1 0 x) 1 1 y, L, xP b)) rfl ⟨rfl, rfl, rfl, trivial⟩ ?_
  refine xw_call xb_11 rfl rfl rfl rfl rfl (Or.inl rfl) (c_fill (n := 64) rfl (by decide)) ?_
  rintro _ _ ⟨rfl, rfl⟩
  refine xw_at (f' := (18, [.ref 1, .int x, .int y], [])) (h' := (xS b, va_up (xm_up (xm_up I 1 0 x) 1 1 y) 2 (xfil 64 (fun _ => 0) ((xm_up (xm_up I 1 0 x) 1 1 y) 2)), L, xP b)) rfl rfl ?_
  refine xw_go xb_11 3 (f1 := (23, [.ref 1, .int x, .int y], [.int 0, .ref 3])) (h1 := (xS b, va_up (xm_up (xm_up I 1 0 x) 1 1 y) 2 (xfil 64 (fun _ => 0) ((xm_up (xm_up I 1 0 x) 1 1 y) 2)), L, xP b)) rfl ⟨rfl, trivial⟩ ?_
  refine xw_call xb_11 rfl rfl rfl rfl rfl (Or.inl rfl) (c_fill (n := 64) rfl (by decide)) ?_
  rintro _ _ ⟨rfl, rfl⟩
  refine xw_at (f' := (26, [.ref 1, .int x, .int y], [])) (h' := (xS b, va_up (va_up (xm_up (xm_up I 1 0 x) 1 1 y) 2 (xfil 64 (fun _ => 0) ((xm_up (xm_up I 1 0 x) 1 1 y) 2))) 3 (xfil 64 (fun _ => 0) ((va_up (xm_up (xm_up I 1 0 x) 1 1 y) 2 (xfil 64 (fun _ => 0) ((xm_up (xm_up I 1 0 x) 1 1 y) 2))) 3)), L, xP b)) rfl rfl ?_
  refine xw_go xb_11 16 (f1 := (54, [.ref 1, .int x, .int y], [])) (h1 := (xS b, xm_up (xm_up (xm_up (xm_up (xm_up (va_up (va_up (xm_up (xm_up I 1 0 x) 1 1 y) 2 (xfil 64 (fun _ => 0) ((xm_up (xm_up I 1 0 x) 1 1 y) 2))) 3 (xfil 64 (fun _ => 0) ((va_up (xm_up (xm_up I 1 0 x) 1 1 y) 2 (xfil 64 (fun _ => 0) ((xm_up (xm_up I 1 0 x) 1 1 y) 2))) 3))) 1 5 0) 1 6 0) 1 11 0) 1 12 0) 5 1 0, L, xP b)) rfl ⟨rfl, rfl, rfl, rfl, rfl, rfl, trivial⟩ ?_
  refine xw_ret xb_11 rfl rfl trivial ?_
  refine ⟨rfl, _, rfl, fun a ha => ?_, rfl, rfl, rfl, rfl, rfl, rfl, fun k h0 h1 h5 h6 h11 h12 => ?_, fun c hc => ?_, fun c hc => ?_, rfl, fun k hk => ?_⟩
  · simp only [List.mem_cons, List.not_mem_nil, or_false, not_or] at ha
    rw [xm_up_o ha.2.2.2, xm_up_o ha.1, xm_up_o ha.1, xm_up_o ha.1, xm_up_o ha.1, xm_vu_o ha.2.2.1, xm_vu_o ha.2.1, xm_up_o ha.1, xm_up_o ha.1]
  · simp [xm_up, va_up, h0, h1, h5, h6, h11, h12]
  · simp [xm_up, va_up, xfil, hc]
  · simp [xm_up, va_up, xfil, hc]
  · simp [xm_up, va_up, hk]

theorem c_add1 {d : Nat} {b : Bool} {I : Nat → Nat → Int32} {L : Nat → Nat → Int64} {n : Nat} {x1 x2 x3 x4 : Int32} (h5 : I 1 5 = nI n) (hn : n < 5) : xm_Z (d + 2) 17 [.ref 1, .int x1, .int x2, .int x3, .int x4] (xS b, I, L, xP b) (fun rz hz => rz = none ∧ hz = (xS b, xm_up (xm_up (xm_up (xm_up (xm_up (xm_up I (15 + n) 0 x1) (15 + n) 1 x2) (15 + n) 2 x3) (15 + n) 3 x4) 1 5 (nI (n + 1))) 5 1 0, L, xP b)) := by
  refine xw_S xb_17 (l := [.ref 1, .int x1, .int x2, .int x3, .int x4]) (Nat.le_of_ble_eq_true rfl) rfl ?_
  refine xw_go xb_17 4 (f1 := (if 5 ≤ (I 1 5) then 43 else 8, [.ref 1, .int x1, .int x2, .int x3, .int x4], [])) (h1 := (xS b, I, L, xP b)) rfl ⟨rfl, trivial⟩ ?_
  refine xw_if (fun c_5 => ?_) (fun c_5 => ?_)
  · skip
    refine xw_ret xb_17 rfl rfl trivial ?_
    first
      | (exfalso; rw [h5, xl_5, nI_leI (by omega) (by omega)] at c_5; omega)
      | (refine ⟨rfl, ?_⟩
         have e5 : ∀ v1 v2 v3 v4 : Int32, xm_up (xm_up (xm_up (xm_up I (15 + n) 0 v1) (15 + n) 1 v2) (15 + n) 2 v3) (15 + n) 3 v4 1 5 + 1 = nI (n + 1) := fun v1 v2 v3 v4 => by
           rw [xm_up_o (by omega), xm_up_o (by omega), xm_up_o (by omega), xm_up_o (by omega), h5, nI_1]
         rw [e5])
  · skip
    refine xw_go xb_17 5 (f1 := (17, [.ref 1, .int x1, .int x2, .int x3, .int x4], [xm_o (xP b 4 (I 1 5).toNatClampNeg)])) (h1 := (xS b, I, L, xP b)) rfl ⟨rfl, rfl, (xn_ar' (n := n) (N := 5) rfl h5 hn (by decide)), ⟨Nat.le_of_ble_eq_true rfl, Nat.le_of_ble_eq_true rfl⟩, trivial⟩ ?_
    refine xw_cong (l' := [.ref 1, .int x1, .int x2, .int x3, .int x4]) (st' := [.ref (15 + n)]) (h' := (xS b, I, L, xP b)) rfl (show ([xm_o (xP b 4 (I 1 5).toNatClampNeg)] : List Value) = [.ref (15 + n)] from ?_) rfl ?_
    · rw [h5, xn_cl (by omega), xP_4 hn]
      rfl
    refine xw_go xb_17 4 (f1 := (22, [.ref 1, .int x1, .int x2, .int x3, .int x4], [.int x4, .int x3, .int x2, .int x1, .ref (15 + n)])) (h1 := (xS b, I, L, xP b)) rfl trivial ?_
    refine xw_call xb_17 rfl rfl rfl rfl rfl (Or.inr ⟨_, _, rfl, xS_15 hn⟩) (c_become (a := 15 + n) (xS_15 hn)) ?_
    rintro _ _ ⟨rfl, rfl⟩
    refine xw_at (f' := (25, [.ref 1, .int x1, .int x2, .int x3, .int x4], [])) (h' := (xS b, xm_up (xm_up (xm_up (xm_up I (15 + n) 0 x1) (15 + n) 1 x2) (15 + n) 2 x3) (15 + n) 3 x4, L, xP b)) rfl rfl ?_
    refine xw_go xb_17 10 (f1 := (43, [.ref 1, .int x1, .int x2, .int x3, .int x4], [])) (h1 := (xS b, xm_up (xm_up (xm_up (xm_up (xm_up (xm_up I (15 + n) 0 x1) (15 + n) 1 x2) (15 + n) 2 x3) (15 + n) 3 x4) 1 5 (((xm_up (xm_up (xm_up (xm_up I (15 + n) 0 x1) (15 + n) 1 x2) (15 + n) 2 x3) (15 + n) 3 x4) 1 5) + 1)) 5 1 0, L, xP b)) rfl ⟨rfl, rfl, rfl, rfl, trivial⟩ ?_
    refine xw_ret xb_17 rfl rfl trivial ?_
    first
      | (exfalso; rw [h5, xl_5, nI_leI (by omega) (by omega)] at c_5; omega)
      | (refine ⟨rfl, ?_⟩
         have e5 : ∀ v1 v2 v3 v4 : Int32, xm_up (xm_up (xm_up (xm_up I (15 + n) 0 v1) (15 + n) 1 v2) (15 + n) 2 v3) (15 + n) 3 v4 1 5 + 1 = nI (n + 1) := fun v1 v2 v3 v4 => by
           rw [xm_up_o (by omega), xm_up_o (by omega), xm_up_o (by omega), xm_up_o (by omega), h5, nI_1]
         rw [e5])

theorem c_addLike1 {d : Nat} {b : Bool} {I : Nat → Nat → Int32} {L : Nat → Nat → Int64} {n a : Nat} (h5 : I 1 5 = nI n) (hn : n < 5) (ho : (xS b)[a]? = some (11, 4)) : xm_Z (d + 3) 54 [.ref 1, .ref a] (xS b, I, L, xP b) (fun rz hz => rz = none ∧ hz = (xS b, xm_up (xm_up (xm_up (xm_up (xm_up (xm_up I (15 + n) 0 (I a 0)) (15 + n) 1 (I a 1)) (15 + n) 2 (I a 2)) (15 + n) 3 (I a 3)) 1 5 (nI (n + 1))) 5 1 0, L, xP b)) := by
  refine xw_S xb_54 (l := [.ref 1, .ref a]) (Nat.le_of_ble_eq_true rfl) rfl ?_
  refine xw_go xb_54 9 (f1 := (17, [.ref 1, .ref a], [.int (I a 3), .int (I a 2), .int (I a 1), .int (I a 0), .ref 1])) (h1 := (xS b, I, L, xP b)) rfl ⟨ho, ho, ho, ho, trivial⟩ ?_
  refine xw_call xb_54 rfl rfl rfl rfl rfl (Or.inr ⟨_, _, rfl, rfl⟩) (c_add1 (n := n) h5 hn) ?_
  rintro _ _ ⟨rfl, rfl⟩
  refine xw_at (f' := (20, [.ref 1, .ref a], [])) (h' := (xS b, xm_up (xm_up (xm_up (xm_up (xm_up (xm_up I (15 + n) 0 (I a 0)) (15 + n) 1 (I a 1)) (15 + n) 2 (I a 2)) (15 + n) 3 (I a 3)) 1 5 (nI (n + 1))) 5 1 0, L, xP b)) rfl rfl ?_
  refine xw_ret xb_54 rfl rfl trivial ?_
  exact ⟨rfl, rfl⟩

theorem c_begin74 {d : Nat} {I : Nat → Nat → Int32} {L : Nat → Nat → Int64} {x y : Int32} : xm_Z (d + 2) 11 [.ref 74, .int x, .int y] (xS true, I, L, xP true) (fun rz hz => rz = none ∧ ∃ I', hz = (xS true, I', L, xP true) ∧ xfr [74, 75, 76, 78] I I' ∧ I' 74 0 = x ∧ I' 74 1 = y ∧ I' 74 5 = 0 ∧ I' 74 6 = 0 ∧ I' 74 11 = 0 ∧ I' 74 12 = 0 ∧ (∀ k, k ≠ 0 → k ≠ 1 → k ≠ 5 → k ≠ 6 → k ≠ 11 → k ≠ 12 → I' 74 k = I 74 k) ∧ (∀ c, c < 64 → I' 75 c = 0) ∧ (∀ c, c < 64 → I' 76 c = 0) ∧ I' 78 1 = 0 ∧ ∀ k, k ≠ 1 → I' 78 k = I 78 k) := by
  refine xw_S xb_11 (l := [.ref 74, .int x, .int y]) (Nat.le_of_ble_eq_true rfl) rfl ?_
  refine xw_go xb_11 9 (f1 := (15, [.ref 74, .int x, .int y], [.int 0, .ref 75])) (h1 := (xS true, xm_up (xm_up I 74 0 x) 74 1 y, L, xP true)) rfl ⟨rfl, rfl, rfl, trivial⟩ ?_
  refine xw_call xb_11 rfl rfl rfl rfl rfl (Or.inl rfl) (c_fill (n := 64) rfl (by decide)) ?_
  rintro _ _ ⟨rfl, rfl⟩
  refine xw_at (f' := (18, [.ref 74, .int x, .int y], [])) (h' := (xS true, va_up (xm_up (xm_up I 74 0 x) 74 1 y) 75 (xfil 64 (fun _ => 0) ((xm_up (xm_up I 74 0 x) 74 1 y) 75)), L, xP true)) rfl rfl ?_
  refine xw_go xb_11 3 (f1 := (23, [.ref 74, .int x, .int y], [.int 0, .ref 76])) (h1 := (xS true, va_up (xm_up (xm_up I 74 0 x) 74 1 y) 75 (xfil 64 (fun _ => 0) ((xm_up (xm_up I 74 0 x) 74 1 y) 75)), L, xP true)) rfl ⟨rfl, trivial⟩ ?_
  refine xw_call xb_11 rfl rfl rfl rfl rfl (Or.inl rfl) (c_fill (n := 64) rfl (by decide)) ?_
  rintro _ _ ⟨rfl, rfl⟩
  refine xw_at (f' := (26, [.ref 74, .int x, .int y], [])) (h' := (xS true, va_up (va_up (xm_up (xm_up I 74 0 x) 74 1 y) 75 (xfil 64 (fun _ => 0) ((xm_up (xm_up I 74 0 x) 74 1 y) 75))) 76 (xfil 64 (fun _ => 0) ((va_up (xm_up (xm_up I 74 0 x) 74 1 y) 75 (xfil 64 (fun _ => 0) ((xm_up (xm_up I 74 0 x) 74 1 y) 75))) 76)), L, xP true)) rfl rfl ?_
  refine xw_go xb_11 16 (f1 := (54, [.ref 74, .int x, .int y], [])) (h1 := (xS true, xm_up (xm_up (xm_up (xm_up (xm_up (va_up (va_up (xm_up (xm_up I 74 0 x) 74 1 y) 75 (xfil 64 (fun _ => 0) ((xm_up (xm_up I 74 0 x) 74 1 y) 75))) 76 (xfil 64 (fun _ => 0) ((va_up (xm_up (xm_up I 74 0 x) 74 1 y) 75 (xfil 64 (fun _ => 0) ((xm_up (xm_up I 74 0 x) 74 1 y) 75))) 76))) 74 5 0) 74 6 0) 74 11 0) 74 12 0) 78 1 0, L, xP true)) rfl ⟨rfl, rfl, rfl, rfl, rfl, rfl, trivial⟩ ?_
  refine xw_ret xb_11 rfl rfl trivial ?_
  refine ⟨rfl, _, rfl, fun a ha => ?_, rfl, rfl, rfl, rfl, rfl, rfl, fun k h0 h1 h5 h6 h11 h12 => ?_, fun c hc => ?_, fun c hc => ?_, rfl, fun k hk => ?_⟩
  · simp only [List.mem_cons, List.not_mem_nil, or_false, not_or] at ha
    rw [xm_up_o ha.2.2.2, xm_up_o ha.1, xm_up_o ha.1, xm_up_o ha.1, xm_up_o ha.1, xm_vu_o ha.2.2.1, xm_vu_o ha.2.1, xm_up_o ha.1, xm_up_o ha.1]
  · simp [xm_up, va_up, h0, h1, h5, h6, h11, h12]
  · simp [xm_up, va_up, xfil, hc]
  · simp [xm_up, va_up, xfil, hc]
  · simp [xm_up, va_up, hk]

theorem c_add74 {d : Nat} {I : Nat → Nat → Int32} {L : Nat → Nat → Int64} {n : Nat} {x1 x2 x3 x4 : Int32} (h5 : I 74 5 = nI n) (hn : n < 5) : xm_Z (d + 2) 17 [.ref 74, .int x1, .int x2, .int x3, .int x4] (xS true, I, L, xP true) (fun rz hz => rz = none ∧ hz = (xS true, xm_up (xm_up (xm_up (xm_up (xm_up (xm_up I (88 + n) 0 x1) (88 + n) 1 x2) (88 + n) 2 x3) (88 + n) 3 x4) 74 5 (nI (n + 1))) 78 1 0, L, xP true)) := by
  refine xw_S xb_17 (l := [.ref 74, .int x1, .int x2, .int x3, .int x4]) (Nat.le_of_ble_eq_true rfl) rfl ?_
  refine xw_go xb_17 4 (f1 := (if 5 ≤ (I 74 5) then 43 else 8, [.ref 74, .int x1, .int x2, .int x3, .int x4], [])) (h1 := (xS true, I, L, xP true)) rfl ⟨rfl, trivial⟩ ?_
  refine xw_if (fun c_5 => ?_) (fun c_5 => ?_)
  · skip
    refine xw_ret xb_17 rfl rfl trivial ?_
    first
      | (exfalso; rw [h5, xl_5, nI_leI (by omega) (by omega)] at c_5; omega)
      | (refine ⟨rfl, ?_⟩
         have e5 : ∀ v1 v2 v3 v4 : Int32, xm_up (xm_up (xm_up (xm_up I (88 + n) 0 v1) (88 + n) 1 v2) (88 + n) 2 v3) (88 + n) 3 v4 74 5 + 1 = nI (n + 1) := fun v1 v2 v3 v4 => by
           rw [xm_up_o (by omega), xm_up_o (by omega), xm_up_o (by omega), xm_up_o (by omega), h5, nI_1]
         rw [e5])
  · skip
    refine xw_go xb_17 5 (f1 := (17, [.ref 74, .int x1, .int x2, .int x3, .int x4], [xm_o (xP true 77 (I 74 5).toNatClampNeg)])) (h1 := (xS true, I, L, xP true)) rfl ⟨rfl, rfl, (xn_ar' (n := n) (N := 5) rfl h5 hn (by decide)), ⟨Nat.le_of_ble_eq_true rfl, Nat.le_of_ble_eq_true rfl⟩, trivial⟩ ?_
    refine xw_cong (l' := [.ref 74, .int x1, .int x2, .int x3, .int x4]) (st' := [.ref (88 + n)]) (h' := (xS true, I, L, xP true)) rfl (show ([xm_o (xP true 77 (I 74 5).toNatClampNeg)] : List Value) = [.ref (88 + n)] from ?_) rfl ?_
    · rw [h5, xn_cl (by omega), xP_77 hn]
      rfl
    refine xw_go xb_17 4 (f1 := (22, [.ref 74, .int x1, .int x2, .int x3, .int x4], [.int x4, .int x3, .int x2, .int x1, .ref (88 + n)])) (h1 := (xS true, I, L, xP true)) rfl trivial ?_
    refine xw_call xb_17 rfl rfl rfl rfl rfl (Or.inr ⟨_, _, rfl, xS_88 hn⟩) (c_become (a := 88 + n) (xS_88 hn)) ?_
    rintro _ _ ⟨rfl, rfl⟩
    refine xw_at (f' := (25, [.ref 74, .int x1, .int x2, .int x3, .int x4], [])) (h' := (xS true, xm_up (xm_up (xm_up (xm_up I (88 + n) 0 x1) (88 + n) 1 x2) (88 + n) 2 x3) (88 + n) 3 x4, L, xP true)) rfl rfl ?_
    refine xw_go xb_17 10 (f1 := (43, [.ref 74, .int x1, .int x2, .int x3, .int x4], [])) (h1 := (xS true, xm_up (xm_up (xm_up (xm_up (xm_up (xm_up I (88 + n) 0 x1) (88 + n) 1 x2) (88 + n) 2 x3) (88 + n) 3 x4) 74 5 (((xm_up (xm_up (xm_up (xm_up I (88 + n) 0 x1) (88 + n) 1 x2) (88 + n) 2 x3) (88 + n) 3 x4) 74 5) + 1)) 78 1 0, L, xP true)) rfl ⟨rfl, rfl, rfl, rfl, trivial⟩ ?_
    refine xw_ret xb_17 rfl rfl trivial ?_
    first
      | (exfalso; rw [h5, xl_5, nI_leI (by omega) (by omega)] at c_5; omega)
      | (refine ⟨rfl, ?_⟩
         have e5 : ∀ v1 v2 v3 v4 : Int32, xm_up (xm_up (xm_up (xm_up I (88 + n) 0 v1) (88 + n) 1 v2) (88 + n) 2 v3) (88 + n) 3 v4 74 5 + 1 = nI (n + 1) := fun v1 v2 v3 v4 => by
           rw [xm_up_o (by omega), xm_up_o (by omega), xm_up_o (by omega), xm_up_o (by omega), h5, nI_1]
         rw [e5])

theorem c_addLike74 {d : Nat} {I : Nat → Nat → Int32} {L : Nat → Nat → Int64} {n a : Nat} (h5 : I 74 5 = nI n) (hn : n < 5) (ho : (xS true)[a]? = some (11, 4)) : xm_Z (d + 3) 54 [.ref 74, .ref a] (xS true, I, L, xP true) (fun rz hz => rz = none ∧ hz = (xS true, xm_up (xm_up (xm_up (xm_up (xm_up (xm_up I (88 + n) 0 (I a 0)) (88 + n) 1 (I a 1)) (88 + n) 2 (I a 2)) (88 + n) 3 (I a 3)) 74 5 (nI (n + 1))) 78 1 0, L, xP true)) := by
  refine xw_S xb_54 (l := [.ref 74, .ref a]) (Nat.le_of_ble_eq_true rfl) rfl ?_
  refine xw_go xb_54 9 (f1 := (17, [.ref 74, .ref a], [.int (I a 3), .int (I a 2), .int (I a 1), .int (I a 0), .ref 74])) (h1 := (xS true, I, L, xP true)) rfl ⟨ho, ho, ho, ho, trivial⟩ ?_
  refine xw_call xb_54 rfl rfl rfl rfl rfl (Or.inr ⟨_, _, rfl, rfl⟩) (c_add74 (n := n) h5 hn) ?_
  rintro _ _ ⟨rfl, rfl⟩
  refine xw_at (f' := (20, [.ref 74, .ref a], [])) (h' := (xS true, xm_up (xm_up (xm_up (xm_up (xm_up (xm_up I (88 + n) 0 (I a 0)) (88 + n) 1 (I a 1)) (88 + n) 2 (I a 2)) (88 + n) 3 (I a 3)) 74 5 (nI (n + 1))) 78 1 0, L, xP true)) rfl rfl ?_
  refine xw_ret xb_54 rfl rfl trivial ?_
  exact ⟨rfl, rfl⟩

theorem xMN_nw {N : Nat → Nat} {r c : Nat} {I : Nat → Nat → Int32} (hM : xMN N I) : ∀ j, j < 159 → (if 31 ≤ j ∧ j < 31 + 128 then 0 else xm_up (xm_up (xm_up (xm_up (xm_up (xm_up I 61 0 (nI r)) 61 1 (nI c)) 61 2 0) 61 3 0) 61 4 0) 61 9 0 61 j) = nI (xnw N r c j) := by
  intro j hj
  unfold xnw
  by_cases h : 31 ≤ j
  · rw [if_pos (by omega), if_neg (by omega), if_neg (by omega), if_pos (by omega)]
    rfl
  · rw [if_neg (by omega)]
    by_cases h9 : j = 9
    · subst h9; rfl
    rw [xm_up_ne (Or.inr h9)]
    by_cases h4 : j = 4
    · subst h4; rfl
    rw [xm_up_ne (Or.inr h4)]
    by_cases h3 : j = 3
    · subst h3; rfl
    rw [xm_up_ne (Or.inr h3)]
    by_cases h2 : j = 2
    · subst h2; rfl
    rw [xm_up_ne (Or.inr h2)]
    by_cases h1 : j = 1
    · subst h1; rfl
    rw [xm_up_ne (Or.inr h1)]
    by_cases h0 : j = 0
    · subst h0; rfl
    rw [xm_up_ne (Or.inr h0), if_neg h0, if_neg h1, if_neg (by omega)]
    exact hM j hj
theorem m_freshLawn {d : Nat} {b : Bool} {I : Nat → Nat → Int32} {L : Nat → Nat → Int64} {N : Nat → Nat} (hM : xMN N I) {r c : Nat} {x1 : Int32} (e_x1 : x1 = nI r) {x2 : Int32} (e_x2 : x2 = nI c) : xm_Z (d + 1) 109 [.ref 60, .int x1, .int x2] (xS b, I, L, xP b) (fun rz hz => rz = none ∧ ∃ I', hz = (xS b, I', L, xP b) ∧ xMN (xnw N r c) I' ∧ I' 60 10 = 0 ∧ xMF I I') := by
  subst e_x1
  subst e_x2
  refine xw_S xb_109 (l := [.ref 60, .int (nI r), .int (nI c), .float 0]) (Nat.le_of_ble_eq_true rfl) rfl ?_
  refine xw_go xb_109 32 (f1 := (46, [.ref 60, .int (nI r), .int (nI c), .int 31], [])) (h1 := (xS b, xm_up (xm_up (xm_up (xm_up (xm_up (xm_up I 61 (0 : Int32).toNatClampNeg (nI r)) 61 (1 : Int32).toNatClampNeg (nI c)) 61 (2 : Int32).toNatClampNeg 0) 61 (3 : Int32).toNatClampNeg 0) 61 (4 : Int32).toNatClampNeg 0) 61 (9 : Int32).toNatClampNeg 0, L, xP b)) rfl ⟨rfl, (xn_ar (n := 0) (N := 159) rfl (by decide) (by decide)), rfl, (xn_ar (n := 1) (N := 159) rfl (by decide) (by decide)), rfl, (xn_ar (n := 2) (N := 159) rfl (by decide) (by decide)), rfl, (xn_ar (n := 3) (N := 159) rfl (by decide) (by decide)), rfl, (xn_ar (n := 4) (N := 159) rfl (by decide) (by decide)), rfl, (xn_ar (n := 9) (N := 159) rfl (by decide) (by decide)), trivial⟩ ?_
  refine xw_at (f' := (46, [.ref 60, .int (nI r), .int (nI c), .int (nI (31 + 0))], [])) (h' := (xS b, va_up (xm_up (xm_up (xm_up (xm_up (xm_up (xm_up I 61 0 (nI r)) 61 1 (nI c)) 61 2 0) 61 3 0) 61 4 0) 61 9 0) 61 (fun j => if 31 ≤ j ∧ j < 31 + 0 then 0 else (xm_up (xm_up (xm_up (xm_up (xm_up (xm_up I 61 0 (nI r)) 61 1 (nI c)) 61 2 0) 61 3 0) 61 4 0) 61 9 0) 61 j), L, xP b)) rfl ?_ ?_
  · refine congrArg (fun X => (xS b, X, L, xP b)) ?_
    funext a j
    by_cases ha : a = 61
    · subst ha
      simp only [va_up, if_true]
      rw [if_neg (by omega)]
      rfl
    · rw [xm_vu_o ha]
      rfl
  refine xw_loop 128 (fun i => (46, [.ref 60, .int (nI r), .int (nI c), .int (nI (31 + i))], [])) (fun i => (xS b, va_up (xm_up (xm_up (xm_up (xm_up (xm_up (xm_up I 61 0 (nI r)) 61 1 (nI c)) 61 2 0) 61 3 0) 61 4 0) 61 9 0) 61 (fun j => if 31 ≤ j ∧ j < 31 + i then 0 else (xm_up (xm_up (xm_up (xm_up (xm_up (xm_up I 61 0 (nI r)) 61 1 (nI c)) 61 2 0) 61 3 0) 61 4 0) 61 9 0) 61 j), L, xP b)) (fun i hi ih => ?_) ?_ 0 (Nat.zero_le _)
  · skip
    refine xw_go xb_109 3 (f1 := (if 159 ≤ (nI (31 + i)) then 66 else 53, [.ref 60, .int (nI r), .int (nI c), .int (nI (31 + i))], [])) (h1 := (xS b, va_up (xm_up (xm_up (xm_up (xm_up (xm_up (xm_up I 61 0 (nI r)) 61 1 (nI c)) 61 2 0) 61 3 0) 61 4 0) 61 9 0) 61 (fun j => if 31 ≤ j ∧ j < 31 + i then 0 else (xm_up (xm_up (xm_up (xm_up (xm_up (xm_up I 61 0 (nI r)) 61 1 (nI c)) 61 2 0) 61 3 0) 61 4 0) 61 9 0) 61 j), L, xP b)) rfl trivial ?_
    refine xw_if (fun c_50 => ?_) (fun c_50 => ?_)
    · skip
      exfalso
      simp (disch := omega) only [xl_159, nI_leI] at c_50
      omega
    · skip
      refine xw_go xb_109 7 (f1 := (46, [.ref 60, .int (nI r), .int (nI c), .int ((nI (31 + i)) + 1)], [])) (h1 := (xS b, xm_up (va_up (xm_up (xm_up (xm_up (xm_up (xm_up (xm_up I 61 0 (nI r)) 61 1 (nI c)) 61 2 0) 61 3 0) 61 4 0) 61 9 0) 61 (fun j => if 31 ≤ j ∧ j < 31 + i then 0 else (xm_up (xm_up (xm_up (xm_up (xm_up (xm_up I 61 0 (nI r)) 61 1 (nI c)) 61 2 0) 61 3 0) 61 4 0) 61 9 0) 61 j)) 61 (nI (31 + i)).toNatClampNeg 0, L, xP b)) rfl ⟨rfl, (xn_ar (n := 31 + i) (N := 159) rfl (by omega) (by decide)), trivial⟩ ?_
      refine xw_cong ?_ rfl ?_ ih
      · rw [nI_1, Nat.add_assoc]
      · rw [xn_cl (by omega), xup_s]
        refine congrArg (fun X => (xS b, va_up (xm_up (xm_up (xm_up (xm_up (xm_up (xm_up I 61 0 (nI r)) 61 1 (nI c)) 61 2 0) 61 3 0) 61 4 0) 61 9 0) 61 X, L, xP b)) ?_
        funext j
        by_cases hj : j = 31 + i
        · subst hj
          simp only [va_up, if_true]
          rw [if_pos (by omega)]
        · simp only [va_up, hj, if_false]
          by_cases h1 : 31 ≤ j ∧ j < 31 + i
          · rw [if_pos h1, if_pos (by omega)]
          · rw [if_neg h1, if_neg (by omega)]
  · skip
    refine xw_go xb_109 3 (f1 := (if 159 ≤ (nI (31 + 128)) then 66 else 53, [.ref 60, .int (nI r), .int (nI c), .int (nI (31 + 128))], [])) (h1 := (xS b, va_up (xm_up (xm_up (xm_up (xm_up (xm_up (xm_up I 61 0 (nI r)) 61 1 (nI c)) 61 2 0) 61 3 0) 61 4 0) 61 9 0) 61 (fun j => if 31 ≤ j ∧ j < 31 + 128 then 0 else (xm_up (xm_up (xm_up (xm_up (xm_up (xm_up I 61 0 (nI r)) 61 1 (nI c)) 61 2 0) 61 3 0) 61 4 0) 61 9 0) 61 j), L, xP b)) rfl trivial ?_
    refine xw_if (fun c_50 => ?_) (fun c_50 => ?_)
    · skip
      refine xw_go xb_109 3 (f1 := (71, [.ref 60, .int (nI r), .int (nI c), .int (nI (31 + 128))], [])) (h1 := (xS b, xm_up (va_up (xm_up (xm_up (xm_up (xm_up (xm_up (xm_up I 61 0 (nI r)) 61 1 (nI c)) 61 2 0) 61 3 0) 61 4 0) 61 9 0) 61 (fun j => if 31 ≤ j ∧ j < 31 + 128 then 0 else (xm_up (xm_up (xm_up (xm_up (xm_up (xm_up I 61 0 (nI r)) 61 1 (nI c)) 61 2 0) 61 3 0) 61 4 0) 61 9 0) 61 j)) 60 10 0, L, xP b)) rfl ⟨rfl, trivial⟩ ?_
      refine xw_ret xb_109 rfl rfl trivial ?_
      refine ⟨rfl, _, rfl, ?_, rfl, ?_⟩
      · refine fun k hk => ?_
        rw [xm_up_o (by decide)]
        rw [show ∀ (f : Nat → Nat → Int32) (g : Nat → Int32), va_up f 61 g 61 = g from fun f g => by simp [va_up]]
        exact xMN_nw hM k hk
      · exact xMF_n (xMF_v (xMF_u (xMF_u (xMF_u (xMF_u (xMF_u (xMF_u (xMF_r I) (Or.inl rfl)) (Or.inl rfl)) (Or.inl rfl)) (Or.inl rfl)) (Or.inl rfl)) (Or.inl rfl)) (Or.inl rfl))
    · skip
      exfalso
      simp (disch := omega) only [xl_159, nI_leI] at c_50
      omega

theorem m_comes {d : Nat} {b : Bool} {I : Nat → Nat → Int32} {L : Nat → Nat → Int64} {N : Nat → Nat} (hM : xMN N I) {k pl re pw : Nat} (hn : N 2 < 5) {x1 : Int32} (e_x1 : x1 = nI k) {x2 : Int32} (e_x2 : x2 = nI pl) {x3 : Int32} (e_x3 : x3 = nI re) {x4 : Int32} (e_x4 : x4 = nI pw) : xm_Z (d + 1) 114 [.ref 60, .int x1, .int x2, .int x3, .int x4] (xS b, I, L, xP b) (fun rz hz => rz = none ∧ ∃ I', hz = (xS b, I', L, xP b) ∧ xMN (xadd N k pl re pw) I' ∧ I' 60 10 = 0 ∧ xMF I I') := by
  subst e_x1
  subst e_x2
  subst e_x3
  subst e_x4
  refine xw_S xb_114 (l := [.ref 60, .int (nI k), .int (nI pl), .int (nI re), .int (nI pw), .float 0]) (Nat.le_of_ble_eq_true rfl) rfl ?_
  refine xw_go xb_114 9 (f1 := (13, [.ref 60, .int (nI k), .int (nI pl), .int (nI re), .int (nI pw), .int (11 + (4 * (I 61 (2 : Int32).toNatClampNeg)))], [])) (h1 := (xS b, I, L, xP b)) rfl ⟨rfl, (xn_ar (n := 2) (N := 159) rfl (by decide) (by decide)), trivial⟩ ?_
  refine xw_cong (l' := [.ref 60, .int (nI k), .int (nI pl), .int (nI re), .int (nI pw), .int (nI (11 + 4 * N 2))]) (st' := []) (h' := (xS b, I, L, xP b)) (show ([.ref 60, .int (nI k), .int (nI pl), .int (nI re), .int (nI pw), .int (11 + (4 * (I 61 (2 : Int32).toNatClampNeg)))] : List Value) = [.ref 60, .int (nI k), .int (nI pl), .int (nI re), .int (nI pw), .int (nI (11 + 4 * N 2))] from ?_) rfl rfl ?_
  · rw [show (2 : Int32).toNatClampNeg = 2 from rfl, hM 2 (by decide), xl_4, xl_11, pk_mul, nI_add]
  refine xw_go xb_114 37 (f1 := (67, [.ref 60, .int (nI k), .int (nI pl), .int (nI re), .int (nI pw), .int (nI (11 + 4 * N 2))], [])) (h1 := (xS b, xm_up (xm_up (xm_up (xm_up (xm_up (xm_up I 61 (nI (11 + 4 * N 2)).toNatClampNeg (nI k)) 61 ((nI (11 + 4 * N 2)) + 1).toNatClampNeg (nI pl)) 61 ((nI (11 + 4 * N 2)) + 2).toNatClampNeg (nI re)) 61 ((nI (11 + 4 * N 2)) + 3).toNatClampNeg (nI pw)) 61 (2 : Int32).toNatClampNeg (((xm_up (xm_up (xm_up (xm_up I 61 (nI (11 + 4 * N 2)).toNatClampNeg (nI k)) 61 ((nI (11 + 4 * N 2)) + 1).toNatClampNeg (nI pl)) 61 ((nI (11 + 4 * N 2)) + 2).toNatClampNeg (nI re)) 61 ((nI (11 + 4 * N 2)) + 3).toNatClampNeg (nI pw)) 61 (2 : Int32).toNatClampNeg) + 1)) 60 10 0, L, xP b)) rfl ⟨rfl, (xn_ar (n := 11 + 4 * N 2) (N := 159) rfl (by omega) (by decide)), rfl, (xn_ar' (n := 11 + 4 * N 2 + 1) (N := 159) rfl (show nI (11 + 4 * N 2) + 1 = _ by rw [xl_1, nI_add]) (by omega) (by decide)), rfl, (xn_ar' (n := 11 + 4 * N 2 + 2) (N := 159) rfl (show nI (11 + 4 * N 2) + 2 = _ by rw [xl_2, nI_add]) (by omega) (by decide)), rfl, (xn_ar' (n := 11 + 4 * N 2 + 3) (N := 159) rfl (show nI (11 + 4 * N 2) + 3 = _ by rw [xl_3, nI_add]) (by omega) (by decide)), rfl, (xn_ar (n := 2) (N := 159) rfl (by decide) (by decide)), (xn_ar (n := 2) (N := 159) rfl (by decide) (by decide)), rfl, trivial⟩ ?_
  refine xw_ret xb_114 rfl rfl trivial ?_
  rw [show (2 : Int32).toNatClampNeg = 2 from rfl, xl_1, xl_2, xl_3, nI_add, nI_add, nI_add, xn_cl (by omega), xn_cl (by omega), xn_cl (by omega), xn_cl (by omega)]
  have e2 : ∀ v1 v2 v3 v4 : Int32, xm_up (xm_up (xm_up (xm_up I 61 (11 + 4 * N 2) v1) 61 (11 + 4 * N 2 + 1) v2) 61 (11 + 4 * N 2 + 2) v3) 61 (11 + 4 * N 2 + 3) v4 61 2 = nI (N 2) := fun v1 v2 v3 v4 => by
    rw [xm_up_ne (Or.inr (by omega)), xm_up_ne (Or.inr (by omega)), xm_up_ne (Or.inr (by omega)), xm_up_ne (Or.inr (by omega))]
    exact hM 2 (by decide)
  rw [e2, nI_add]
  refine ⟨rfl, _, rfl, ?_, rfl, ?_⟩
  · intro j hj
    rw [xm_up_o (by decide)]
    unfold xadd
    by_cases h2 : j = 2
    · subst h2
      rw [if_pos rfl]
      exact xm_up_at _ _ _ _
    rw [if_neg h2, xm_up_ne (Or.inr h2)]
    by_cases h3 : j = 11 + 4 * N 2 + 3
    · rw [h3, xm_up_at, if_neg (by omega), if_neg (by omega), if_neg (by omega), if_pos (by omega)]
    rw [xm_up_ne (Or.inr h3)]
    by_cases h4 : j = 11 + 4 * N 2 + 2
    · rw [h4, xm_up_at, if_neg (by omega), if_neg (by omega), if_pos (by omega)]
    rw [xm_up_ne (Or.inr h4)]
    by_cases h5 : j = 11 + 4 * N 2 + 1
    · rw [h5, xm_up_at, if_neg (by omega), if_pos (by omega)]
    rw [xm_up_ne (Or.inr h5)]
    by_cases h6 : j = 11 + 4 * N 2
    · rw [h6, xm_up_at, if_pos rfl]
    rw [xm_up_ne (Or.inr h6), if_neg h6, if_neg (by omega), if_neg (by omega), if_neg (by omega)]
    exact hM j hj
  · exact xMF_n (xMF_u (xMF_u (xMF_u (xMF_u (xMF_u (xMF_r I) (Or.inl rfl)) (Or.inl rfl)) (Or.inl rfl)) (Or.inl rfl)) (Or.inl rfl))

